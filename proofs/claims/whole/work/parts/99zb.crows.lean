section CROWS
variable {ρ : RT} {g : JT}
/-- the class's fault is the reference's -/
def FLm (f φ : IT) : Prop := f 2 6 = φ 104 4 ∧ f 2 7 = φ 104 5
def rfF (w : Int) (f : IT) : IT := u2 (u2 f 2 6 w) 2 7 (f 4 4)
theorem rfF_fl {f φ : IT} {w : Int} (h : f 4 4 = φ 104 10) : FLm (rfF w f) (wrg w φ) := by
  unfold FLm rfF wrg
  exact ⟨by rw [u2_o (by omega), u2_s, u2_o (by omega), u2_s], by rw [u2_s, u2_s]; exact h⟩
theorem rfF_o {f : IT} {w : Int} {a k : Nat} (h : a ≠ 2) : rfF w f a k = f a k := by unfold rfF; rw [u2_o (by omega), u2_o (by omega)]
theorem c_refuse {f : IT} (hρ : Fx ρ) {w : Int} : C_X2_refuse [.ref 2, .int (iz w)] ρ f g (fun r ρ' f' g' => r = some (.int (iz (bz false))) ∧ ρ' = ρ ∧ f' = rfF w f ∧ g' = g) := by
  refine Ct.ofV (by decide) rfl (Nat.le_of_ble_eq_true rfl) ?_
  refine V_al0n dX2_refuse_0 ?_
  refine V_il1n dX2_refuse_1 ?_
  refine V_putI kk2 (by decide) fl_X2_31 rfl dX2_refuse_2 ?_
  refine V_al0n dX2_refuse_5 ?_
  refine V_al0n dX2_refuse_6 ?_
  refine V_getR kk2 (by decide) fl_X2_42 (fx_2_0 hρ) dX2_refuse_7 ?_
  refine V_getI kk4 (by decide) fl_X2_72 (u2_n (by decide) rfl) dX2_refuse_10 ?_
  refine V_putI kk2 (by decide) fl_X2_34 rfl dX2_refuse_13 ?_
  refine V_iconst dX2_refuse_16 ?_
  exact V_zreturn rfl (by first | exact Or.inl rfl | exact Or.inr rfl | (unfold bz; split <;> simp)) ⟨rfl, rfl, rfl, rfl⟩ dX2_refuse_17
/-- the class's kind and value, by the reference's -/
theorem CUR.rr {f φ : IT} (h : CUR f φ) (hK : PK φ) : (0 ≤ f 4 3 ∧ f 4 3 ≤ 20) ∧ (-1 ≤ f 4 6 ∧ f 4 6 ≤ 28) ∧ (f 4 3 = 0 ↔ φ 104 8 = 3) ∧ (f 4 3 = 17 ↔ sgnB 59 φ = true) := by
  obtain ⟨-, -, v0, v1, v2, v3, v4, v5, v6⟩ := h
  obtain ⟨-, k8, k9, k1, -, k5⟩ := hK
  unfold ckK cwK at v1
  unfold csK at v4
  unfold sgnB
  rw [decide_eq_true_iff]
  rcases (show φ 104 8 = 0 ∨ φ 104 8 = 1 ∨ φ 104 8 = 2 ∨ φ 104 8 = 3 ∨ φ 104 8 = 4 ∨ φ 104 8 = 5 ∨ φ 104 8 = 6 by omega) with e | e | e | e | e | e | e
  · have := v0 e; omega
  · have := v1 e; have := k1 e; (repeat' split at this) <;> omega
  · have := v2 e; omega
  · have := v3 e; omega
  · have := v4 e; (repeat' split at this) <;> omega
  · have := v5 e; have := k5 e; omega
  · have := v6 e; omega
theorem CUR.key {f φ : IT} (h : CUR f φ) (hK : PK φ) {k : Int} (hk : 0 ≤ k ∧ k ≤ 28) : f 4 6 = cwK k ↔ keyB k φ = true := by
  obtain ⟨-, -, v0, v1, v2, v3, v4, v5, v6⟩ := h
  obtain ⟨-, k8, k9, k1, -, k5⟩ := hK
  unfold keyB
  rw [decide_eq_true_iff]
  have hc : 0 ≤ cwK k := by unfold cwK; (repeat' split) <;> omega
  rcases (show φ 104 8 = 0 ∨ φ 104 8 = 1 ∨ φ 104 8 = 2 ∨ φ 104 8 = 3 ∨ φ 104 8 = 4 ∨ φ 104 8 = 5 ∨ φ 104 8 = 6 by omega) with e | e | e | e | e | e | e
  · have := v0 e; omega
  · have h1 := v1 e
    have h2 := k1 e
    rw [h1.2.1]
    constructor
    · intro z
      refine ⟨e, ?_⟩
      unfold cwK at z
      (repeat' split at z) <;> omega
    · intro z
      rw [z.2]
  · have := v2 e; omega
  · have := v3 e; omega
  · have := v4 e; omega
  · have := v5 e; omega
  · have := v6 e; omega
theorem c_isNumber {f φ : IT} (hρ : Fx ρ) (h : CUR f φ) (hK : PK φ) {lo hi : Int} (h1 : 0 ≤ lo) (h2 : hi ≤ 99999) (h3 : ri lo) (h4 : ri hi) : C_X2_isNumber [.ref 2, .int (iz lo), .int (iz hi)] ρ f g (fun r ρ' f' g' => r = some (.int (iz (bz (numF lo hi φ).1))) ∧ ρ' = ρ ∧ ((numF lo hi φ).1 = true → f' = f ∧ f 4 5 = φ 104 9 ∧ (lo ≤ φ 104 9 ∧ φ 104 9 ≤ hi) ∧ φ 104 8 = 3 ∧ (numF lo hi φ).2 = tkF (u2 φ 104 11 (φ 104 9))) ∧ ((numF lo hi φ).1 = false → ∃ w, f' = rfF w f ∧ (numF lo hi φ).2 = wrg w φ) ∧ g' = g) := by
  obtain ⟨r1, r2, r3, r4⟩ := h.rr hK
  have hv := h.2.2.2.2.2.1
  refine Ct.ofV (by decide) rfl (Nat.le_of_ble_eq_true rfl) ?_
  by_cases c : φ 104 8 = 3
  · obtain ⟨v1, v2, v3, v4⟩ := hv c
    by_cases z : zin (φ 104 9) lo hi = true
    · have en : numF lo hi φ = (true, tkF (u2 φ 104 11 (φ 104 9))) := by unfold numF; rw [if_neg (by omega), if_pos z]
      have hz : lo ≤ φ 104 9 ∧ φ 104 9 ≤ hi := by unfold zin at z; simpa using z
      rw [en]
      refine V_al0n dX2_isNumber_0 ?_
      refine V_getR kk2 (by decide) fl_X2_42 (fx_2_0 hρ) dX2_isNumber_1 ?_
      refine V_getI kk4 (by decide) fl_X2_58 rfl dX2_isNumber_4 ?_
      refine V_if_eq (tgt := 16) dX2_isNumber_7 rfl (by unfold ri; omega) (fun b7 => ?_) (fun b7 => ?_)
      · refine V_al0n dX2_isNumber_16 ?_
        refine V_getR kk2 (by decide) fl_X2_42 (fx_2_0 hρ) dX2_isNumber_17 ?_
        refine V_getI kk4 (by decide) fl_X2_115 rfl dX2_isNumber_20 ?_
        refine V_il1n dX2_isNumber_23 ?_
        refine V_icmp_lt (tgt := 38) dX2_isNumber_24 rfl (by unfold ri; omega) h3 (fun b24 => ?_) (fun b24 => ?_)
        · exfalso; omega
        · refine V_al0n dX2_isNumber_27 ?_
          refine V_getR kk2 (by decide) fl_X2_42 (fx_2_0 hρ) dX2_isNumber_28 ?_
          refine V_getI kk4 (by decide) fl_X2_115 rfl dX2_isNumber_31 ?_
          refine V_il2n dX2_isNumber_34 ?_
          refine V_icmp_le (tgt := 46) dX2_isNumber_35 rfl (by unfold ri; omega) h4 (fun b35 => ?_) (fun b35 => ?_)
          · refine V_iconst dX2_isNumber_46 ?_
            refine V_goto (tgt := 51) dX2_isNumber_47 rfl ?_
            exact V_zreturn rfl (by first | exact Or.inl rfl | exact Or.inr rfl | (unfold bz; split <;> simp)) ⟨rfl, rfl, fun _ => ⟨rfl, by omega, hz, c, rfl⟩, fun q => by (cases q), rfl⟩ dX2_isNumber_51
          · exfalso; omega
      · exfalso; omega
    · have en : numF lo hi φ = (false, wrg 2 φ) := by unfold numF; rw [if_neg (by omega), if_neg z]
      have hz : ¬ (lo ≤ φ 104 9 ∧ φ 104 9 ≤ hi) := by unfold zin at z; simpa using z
      rw [en]
      refine V_al0n dX2_isNumber_0 ?_
      refine V_getR kk2 (by decide) fl_X2_42 (fx_2_0 hρ) dX2_isNumber_1 ?_
      refine V_getI kk4 (by decide) fl_X2_58 rfl dX2_isNumber_4 ?_
      refine V_if_eq (tgt := 16) dX2_isNumber_7 rfl (by unfold ri; omega) (fun b7 => ?_) (fun b7 => ?_)
      · refine V_al0n dX2_isNumber_16 ?_
        refine V_getR kk2 (by decide) fl_X2_42 (fx_2_0 hρ) dX2_isNumber_17 ?_
        refine V_getI kk4 (by decide) fl_X2_115 rfl dX2_isNumber_20 ?_
        refine V_il1n dX2_isNumber_23 ?_
        refine V_icmp_lt (tgt := 38) dX2_isNumber_24 rfl (by unfold ri; omega) h3 (fun b24 => ?_) (fun b24 => ?_)
        · refine V_al0n dX2_isNumber_38 ?_
          refine V_iconst dX2_isNumber_39 ?_
          refine V_callV (as := [_]) ml_X2_68 im_X2_refuse se_X2_refuse kk2 (by decide) (by decide) dX2_isNumber_40 rfl rfl (by decide) (by decide) (Nat.le_of_ble_eq_true rfl) (by decide) (by decide) rfl (c_refuse hρ) ?_
          refine pq4 ?_
          refine V_bt (tgt := 50) dX2_isNumber_43 rfl (fun b43 => ?_) (fun b43 => ?_)
          · refine V_iconst dX2_isNumber_50 ?_
            exact V_zreturn rfl (by first | exact Or.inl rfl | exact Or.inr rfl | (unfold bz; split <;> simp)) ⟨rfl, rfl, fun q => by (cases q), fun _ => ⟨2, rfl, rfl⟩, rfl⟩ dX2_isNumber_51
          · cases b43
        · refine V_al0n dX2_isNumber_27 ?_
          refine V_getR kk2 (by decide) fl_X2_42 (fx_2_0 hρ) dX2_isNumber_28 ?_
          refine V_getI kk4 (by decide) fl_X2_115 rfl dX2_isNumber_31 ?_
          refine V_il2n dX2_isNumber_34 ?_
          refine V_icmp_le (tgt := 46) dX2_isNumber_35 rfl (by unfold ri; omega) h4 (fun b35 => ?_) (fun b35 => ?_)
          · exfalso; omega
          · refine V_al0n dX2_isNumber_38 ?_
            refine V_iconst dX2_isNumber_39 ?_
            refine V_callV (as := [_]) ml_X2_68 im_X2_refuse se_X2_refuse kk2 (by decide) (by decide) dX2_isNumber_40 rfl rfl (by decide) (by decide) (Nat.le_of_ble_eq_true rfl) (by decide) (by decide) rfl (c_refuse hρ) ?_
            refine pq4 ?_
            refine V_bt (tgt := 50) dX2_isNumber_43 rfl (fun b43 => ?_) (fun b43 => ?_)
            · refine V_iconst dX2_isNumber_50 ?_
              exact V_zreturn rfl (by first | exact Or.inl rfl | exact Or.inr rfl | (unfold bz; split <;> simp)) ⟨rfl, rfl, fun q => by (cases q), fun _ => ⟨2, rfl, rfl⟩, rfl⟩ dX2_isNumber_51
            · cases b43
      · exfalso; omega
  · have en : numF lo hi φ = (false, wrg 1 φ) := by unfold numF; rw [if_pos c]
    rw [en]
    refine V_al0n dX2_isNumber_0 ?_
    refine V_getR kk2 (by decide) fl_X2_42 (fx_2_0 hρ) dX2_isNumber_1 ?_
    refine V_getI kk4 (by decide) fl_X2_58 rfl dX2_isNumber_4 ?_
    refine V_if_eq (tgt := 16) dX2_isNumber_7 rfl (by unfold ri; omega) (fun b7 => ?_) (fun b7 => ?_)
    · exfalso; omega
    · refine V_al0n dX2_isNumber_10 ?_
      refine V_iconst dX2_isNumber_11 ?_
      refine V_callV (as := [_]) ml_X2_68 im_X2_refuse se_X2_refuse kk2 (by decide) (by decide) dX2_isNumber_12 rfl rfl (by decide) (by decide) (Nat.le_of_ble_eq_true rfl) (by decide) (by decide) rfl (c_refuse hρ) ?_
      refine pq4 ?_
      exact V_zreturn rfl (by first | exact Or.inl rfl | exact Or.inr rfl | (unfold bz; split <;> simp)) ⟨rfl, rfl, fun q => by (cases q), fun _ => ⟨1, rfl, rfl⟩, rfl⟩ dX2_isNumber_15
theorem c_ends {f φ : IT} (hρ : Fx ρ) (h : CUR f φ) (hK : PK φ) : C_X2_ends [.ref 2] ρ f g (fun r ρ' f' g' => r = some (.int (iz (bz (sgnB 59 φ)))) ∧ ρ' = ρ ∧ f' = (if sgnB 59 φ = true then f else rfF 1 f) ∧ g' = g) := by
  obtain ⟨r1, r2, r3, r4⟩ := h.rr hK
  refine Ct.ofV (by decide) rfl (Nat.le_of_ble_eq_true rfl) ?_
  cases c : sgnB 59 φ with
  | true =>
    rw [c] at r4
    have := r4.mpr rfl
    rw [if_pos rfl]
    refine V_al0n dX2_ends_0 ?_
    refine V_getR kk2 (by decide) fl_X2_42 (fx_2_0 hρ) dX2_ends_1 ?_
    refine V_getI kk4 (by decide) fl_X2_58 rfl dX2_ends_4 ?_
    refine V_bipush dX2_ends_7 rfl ?_
    refine V_icmp_eq (tgt := 20) dX2_ends_9 rfl (by unfold ri; omega) (by unfold ri; omega) (fun b9 => ?_) (fun b9 => ?_)
    · refine V_iconst dX2_ends_20 ?_
      refine V_goto (tgt := 25) dX2_ends_21 rfl ?_
      exact V_zreturn rfl (by first | exact Or.inl rfl | exact Or.inr rfl | (unfold bz; split <;> simp)) ⟨rfl, rfl, rfl, rfl⟩ dX2_ends_25
    · exfalso; omega
  | false =>
    rw [c] at r4
    have hn : ¬ f 4 3 = 17 := fun z => Bool.noConfusion (r4.mp z)
    rw [if_neg Bool.false_ne_true]
    refine V_al0n dX2_ends_0 ?_
    refine V_getR kk2 (by decide) fl_X2_42 (fx_2_0 hρ) dX2_ends_1 ?_
    refine V_getI kk4 (by decide) fl_X2_58 rfl dX2_ends_4 ?_
    refine V_bipush dX2_ends_7 rfl ?_
    refine V_icmp_eq (tgt := 20) dX2_ends_9 rfl (by unfold ri; omega) (by unfold ri; omega) (fun b9 => ?_) (fun b9 => ?_)
    · exfalso; omega
    · refine V_al0n dX2_ends_12 ?_
      refine V_iconst dX2_ends_13 ?_
      refine V_callV (as := [_]) ml_X2_68 im_X2_refuse se_X2_refuse kk2 (by decide) (by decide) dX2_ends_14 rfl rfl (by decide) (by decide) (Nat.le_of_ble_eq_true rfl) (by decide) (by decide) rfl (c_refuse hρ) ?_
      refine pq4 ?_
      refine V_bt (tgt := 24) dX2_ends_17 rfl (fun b17 => ?_) (fun b17 => ?_)
      · refine V_iconst dX2_ends_24 ?_
        exact V_zreturn rfl (by first | exact Or.inl rfl | exact Or.inr rfl | (unfold bz; split <;> simp)) ⟨rfl, rfl, rfl, rfl⟩ dX2_ends_25
      · cases b17
section ROW
variable {b i n : Nat} {f : IT}
/-- a kind of rows of the class: how many there are, may be, how wide -/
def RWs (b i n : Nat) (f : IT) : Prop := f (b + 2 + 3 * i) 4 = (n : Int) ∧ f (b + 2 + 3 * i) 0 = (mxK i : Int) ∧ f (b + 2 + 3 * i) 1 = (wdK i : Int)
theorem mw_r : ∀ i : Nat, i < 5 → 1 ≤ mxK i ∧ mxK i ≤ 6 ∧ 1 ≤ wdK i ∧ wdK i ≤ 7 ∧ mxK i * wdK i ≤ 42 := by decide
theorem w_prfind (hρ : Fx ρ) (hb : b = 5 ∨ b = 30) (hi : i < 5) (hR : RWs b i n f) (hn : n ≤ mxK i) {x : Int} (rx : ri x) (hr : ∀ k, k < n → ri (f (b + 3 + 3 * i) k)) {Q : QT}
    (hy : ∀ j, j < n → f (b + 3 + 3 * i) j = x → (∀ k, k < j → f (b + 3 + 3 * i) k ≠ x) → Q (some (.int (iz (j : Int)))) ρ f g) (hno : (∀ k, k < n → f (b + 3 + 3 * i) k ≠ x) → Q (some (.int (iz (-1)))) ρ f g) (j : Nat) (hj : j ≤ n) (hbf : ∀ k, k < j → f (b + 3 + 3 * i) k ≠ x) :
    V_X3_find Q 2 [.ref (b + 2 + 3 * i), .int (iz x), .int (iz (j : Int))] [] ρ f g := by
  have hkd := kdR hb hi
  have hfx := fxR hρ hb hi
  have hm := mw_r i hi
  refine V_il2n dX3_find_2 ?_
  refine V_al0n dX3_find_3 ?_
  refine V_getI hkd.1 (kdlt hkd.1 (by decide)) fl_X3_9 hR.1 dX3_find_4 ?_
  refine V_icmp_ge (tgt := 36) dX3_find_7 rfl (by unfold ri; omega) (by unfold ri; omega) (fun b7 => ?_) (fun b7 => ?_)
  · refine V_iconst dX3_find_36 ?_
    exact V_ireturn rfl (hno (fun k hk => hbf k (by omega))) dX3_find_37
  · refine V_il2n dX3_find_10 ?_
    refine V_al0n dX3_find_11 ?_
    refine V_getI hkd.1 (kdlt hkd.1 (by decide)) fl_X3_15 hR.2.1 dX3_find_12 ?_
    refine V_icmp_ge (tgt := 36) dX3_find_15 rfl (by unfold ri; omega) (by unfold ri; omega) (fun b15 => ?_) (fun b15 => ?_)
    · exfalso; omega
    · refine V_al0n dX3_find_18 ?_
      refine V_getR hkd.1 (kdlt hkd.1 (by decide)) fl_X3_21 hfx.2.1 dX3_find_19 ?_
      refine V_il2n dX3_find_22 ?_
      refine V_iald (k := j) hkd.2.1 (kdlt hkd.2.1 (by decide)) (by first | rfl | omega) (by omega) (by first | decide | assumption | omega) rfl dX3_find_23 ?_
      refine V_il1n dX3_find_24 ?_
      refine V_icmp_ne (tgt := 30) dX3_find_25 rfl (hr j (by omega)) rx (fun b25 => ?_) (fun b25 => ?_)
      · refine V_inc2 dX3_find_30 (by decide) rfl ?_
        refine V_goto (tgt := 2) dX3_find_33 rfl ?_
        exact w_prfind hρ hb hi hR hn rx hr hy hno (j + 1) (by omega) (fun k hk => by by_cases e : k = j; (rw [e]; omega); exact hbf k (by omega))
      · refine V_il2n dX3_find_28 ?_
        exact V_ireturn rfl (hy j (by omega) (by omega) hbf) dX3_find_29
termination_by n - j
theorem c_prfind (hρ : Fx ρ) (hb : b = 5 ∨ b = 30) (hi : i < 5) (hR : RWs b i n f) (hn : n ≤ mxK i) {x : Int} (rx : ri x) (hr : ∀ k, k < n → ri (f (b + 3 + 3 * i) k)) : C_X3_find [.ref (b + 2 + 3 * i), .int (iz x)] ρ f g (fun r ρ' f' g' => r = some (.int (iz (fnd (f (b + 3 + 3 * i)) 0 n x))) ∧ ρ' = ρ ∧ f' = f ∧ g' = g) := by
  refine Ct.ofV (by decide) rfl (Nat.le_of_ble_eq_true rfl) ?_
  have hkd := kdR hb hi
  refine V_iconst dX3_find_0 ?_
  refine V_is2n dX3_find_1 (by decide) rfl ?_
  exact w_prfind hρ hb hi hR hn rx hr (fun j hj h hb => ⟨by rw [fnd_yes hj (by rw [Nat.zero_add]; exact h) (fun k hk => by rw [Nat.zero_add]; exact hb k hk)], rfl, rfl, rfl⟩) (fun hb => ⟨by rw [fnd_no (fun k hk => by rw [Nat.zero_add]; exact hb k hk)], rfl, rfl, rfl⟩) 0 (by omega) (fun k hk => by omega)
/-- a new row, all of it 0 -/
def ropF (b i n : Nat) (x : Int) (j : Nat) (f : IT) : IT := fun a k => if a = b + 4 + 3 * i ∧ n * wdK i ≤ k ∧ k < n * wdK i + j then 0 else if a = b + 3 + 3 * i ∧ k = n then x else f a k
theorem w_ropen (hρ : Fx ρ) (hb : b = 5 ∨ b = 30) (hi : i < 5) (hR : RWs b i n f) (hn : n < mxK i) {x : Int} {Q : QT} (hQ : Q none ρ (ropF b i n x (wdK i) f) g) (j : Nat) (hj : j ≤ wdK i) :
    V_X3_open Q 24 [.ref (b + 2 + 3 * i), .int (iz x), .int (iz (j : Int))] [] ρ (ropF b i n x j f) g := by
  have hkd := kdR hb hi
  have hfx := fxR hρ hb hi
  have hm := mw_r i hi
  have o1 : ropF b i n x j f (b + 2 + 3 * i) 1 = (wdK i : Int) := by unfold ropF; rw [if_neg (by omega), if_neg (by omega)]; exact hR.2.2
  have o4 : ropF b i n x j f (b + 2 + 3 * i) 4 = (n : Int) := by unfold ropF; rw [if_neg (by omega), if_neg (by omega)]; exact hR.1
  by_cases e : j = wdK i
  · subst e
    refine V_il2n dX3_open_24 ?_
    refine V_al0n dX3_open_25 ?_
    refine V_getI hkd.1 (kdlt hkd.1 (by decide)) fl_X3_18 o1 dX3_open_26 ?_
    refine V_icmp_ge (tgt := 55) dX3_open_29 rfl (by unfold ri; omega) (by unfold ri; omega) (fun b29 => ?_) (fun b29 => ?_)
    · exact V_return rfl hQ dX3_open_55
    · exfalso; omega
  · have hix : n * wdK i + j < mxK i * wdK i := cix hn (by omega)
    have ej : (n : Int) * (wdK i : Int) + (j : Int) = ((n * wdK i + j : Nat) : Int) := by simp
    have es : u2 (ropF b i n x j f) (b + 4 + 3 * i) (n * wdK i + j) 0 = ropF b i n x (j + 1) f := by
      funext a k
      unfold u2 ropF
      by_cases z : a = b + 4 + 3 * i ∧ k = n * wdK i + j
      · rw [if_pos z, if_pos (by omega)]
      · rw [if_neg z]
        by_cases z2 : a = b + 4 + 3 * i ∧ n * wdK i ≤ k ∧ k < n * wdK i + j
        · rw [if_pos z2, if_pos (by omega)]
        · rw [if_neg z2, if_neg (show ¬ (a = b + 4 + 3 * i ∧ n * wdK i ≤ k ∧ k < n * wdK i + (j + 1)) by omega)]
    refine V_il2n dX3_open_24 ?_
    refine V_al0n dX3_open_25 ?_
    refine V_getI hkd.1 (kdlt hkd.1 (by decide)) fl_X3_18 o1 dX3_open_26 ?_
    refine V_icmp_ge (tgt := 55) dX3_open_29 rfl (by unfold ri; omega) (by unfold ri; omega) (fun b29 => ?_) (fun b29 => ?_)
    · exfalso; omega
    · refine V_al0n dX3_open_32 ?_
      refine V_getR hkd.1 (kdlt hkd.1 (by decide)) fl_X3_25 hfx.2.2 dX3_open_33 ?_
      refine V_al0n dX3_open_36 ?_
      refine V_getI hkd.1 (kdlt hkd.1 (by decide)) fl_X3_9 o4 dX3_open_37 ?_
      refine V_al0n dX3_open_40 ?_
      refine V_getI hkd.1 (kdlt hkd.1 (by decide)) fl_X3_18 o1 dX3_open_41 ?_
      refine V_imul dX3_open_44 ?_
      refine V_il2n dX3_open_45 ?_
      refine V_iadd dX3_open_46 ?_
      refine V_iconst dX3_open_47 ?_
      refine V_iast (k := (n * wdK i + j)) hkd.2.2 (kdlt hkd.2.2 (by decide)) ej (by omega) (by first | decide | assumption | omega) dX3_open_48 ?_
      refine V_inc2 dX3_open_49 (by decide) rfl ?_
      refine V_goto (tgt := 24) dX3_open_52 rfl ?_
      rw [es]
      exact w_ropen hρ hb hi hR hn hQ (j + 1) (by omega)
termination_by wdK i - j
theorem c_ropen (hρ : Fx ρ) (hb : b = 5 ∨ b = 30) (hi : i < 5) (hR : RWs b i n f) (hn : n < mxK i) {x : Int} : C_X3_open [.ref (b + 2 + 3 * i), .int (iz x)] ρ f g (fun r ρ' f' g' => r = none ∧ ρ' = ρ ∧ f' = ropF b i n x (wdK i) f ∧ g' = g) := by
  have hkd := kdR hb hi
  have hfx := fxR hρ hb hi
  have hm := mw_r i hi
  have e0 : u2 f (b + 3 + 3 * i) n x = ropF b i n x 0 f := by
    funext a k
    unfold u2 ropF
    rw [if_neg (show ¬ (a = b + 4 + 3 * i ∧ n * wdK i ≤ k ∧ k < n * wdK i + 0) by omega)]
  refine Ct.ofV (by decide) rfl (Nat.le_of_ble_eq_true rfl) ?_
  refine V_al0n dX3_open_0 ?_
  refine V_getI hkd.1 (kdlt hkd.1 (by decide)) fl_X3_9 hR.1 dX3_open_1 ?_
  refine V_al0n dX3_open_4 ?_
  refine V_getI hkd.1 (kdlt hkd.1 (by decide)) fl_X3_15 hR.2.1 dX3_open_5 ?_
  refine V_icmp_lt (tgt := 12) dX3_open_8 rfl (by unfold ri; omega) (by unfold ri; omega) (fun b8 => ?_) (fun b8 => ?_)
  · refine V_al0n dX3_open_12 ?_
    refine V_getR hkd.1 (kdlt hkd.1 (by decide)) fl_X3_21 hfx.2.1 dX3_open_13 ?_
    refine V_al0n dX3_open_16 ?_
    refine V_getI hkd.1 (kdlt hkd.1 (by decide)) fl_X3_9 hR.1 dX3_open_17 ?_
    refine V_il1n dX3_open_20 ?_
    refine V_iast (k := n) hkd.2.1 (kdlt hkd.2.1 (by decide)) (by first | rfl | omega) (by omega) (by first | decide | assumption | omega) dX3_open_21 ?_
    refine V_iconst dX3_open_22 ?_
    refine V_is2n dX3_open_23 (by decide) rfl ?_
    rw [e0]
    exact w_ropen hρ hb hi hR hn ⟨rfl, rfl, rfl, rfl⟩ 0 (by omega)
  · exfalso; omega
theorem c_rput (hρ : Fx ρ) (hb : b = 5 ∨ b = 30) (hi : i < 5) (hR : RWs b i n f) (hn : n < mxK i) {j : Nat} (hj : j < wdK i) {v : Int} : C_X3_put [.ref (b + 2 + 3 * i), .int (iz (j : Int)), .int (iz v)] ρ f g (fun r ρ' f' g' => r = none ∧ ρ' = ρ ∧ f' = u2 f (b + 4 + 3 * i) (n * wdK i + j) v ∧ g' = g) := by
  have hkd := kdR hb hi
  have hfx := fxR hρ hb hi
  have hm := mw_r i hi
  have hix : n * wdK i + j < mxK i * wdK i := cix hn hj
  have ej : (n : Int) * (wdK i : Int) + (j : Int) = ((n * wdK i + j : Nat) : Int) := by simp
  refine Ct.ofV (by decide) rfl (Nat.le_of_ble_eq_true rfl) ?_
  refine V_al0n dX3_put_0 ?_
  refine V_getI hkd.1 (kdlt hkd.1 (by decide)) fl_X3_9 hR.1 dX3_put_1 ?_
  refine V_al0n dX3_put_4 ?_
  refine V_getI hkd.1 (kdlt hkd.1 (by decide)) fl_X3_15 hR.2.1 dX3_put_5 ?_
  refine V_icmp_ge (tgt := 40) dX3_put_8 rfl (by unfold ri; omega) (by unfold ri; omega) (fun b8 => ?_) (fun b8 => ?_)
  · exfalso; omega
  · refine V_il1n dX3_put_11 ?_
    refine V_if_lt (tgt := 40) dX3_put_12 rfl (by unfold ri; omega) (fun b12 => ?_) (fun b12 => ?_)
    · exfalso; omega
    · refine V_il1n dX3_put_15 ?_
      refine V_al0n dX3_put_16 ?_
      refine V_getI hkd.1 (kdlt hkd.1 (by decide)) fl_X3_18 hR.2.2 dX3_put_17 ?_
      refine V_icmp_ge (tgt := 40) dX3_put_20 rfl (by unfold ri; omega) (by unfold ri; omega) (fun b20 => ?_) (fun b20 => ?_)
      · exfalso; omega
      · refine V_al0n dX3_put_23 ?_
        refine V_getR hkd.1 (kdlt hkd.1 (by decide)) fl_X3_25 hfx.2.2 dX3_put_24 ?_
        refine V_al0n dX3_put_27 ?_
        refine V_getI hkd.1 (kdlt hkd.1 (by decide)) fl_X3_9 hR.1 dX3_put_28 ?_
        refine V_al0n dX3_put_31 ?_
        refine V_getI hkd.1 (kdlt hkd.1 (by decide)) fl_X3_18 hR.2.2 dX3_put_32 ?_
        refine V_imul dX3_put_35 ?_
        refine V_il1n dX3_put_36 ?_
        refine V_iadd dX3_put_37 ?_
        refine V_il2n dX3_put_38 ?_
        refine V_iast (k := (n * wdK i + j)) hkd.2.2 (kdlt hkd.2.2 (by decide)) ej (by omega) (by first | decide | assumption | omega) dX3_put_39 ?_
        exact V_return rfl ⟨rfl, rfl, rfl, rfl⟩ dX3_put_40
theorem c_rclose (hb : b = 5 ∨ b = 30) (hi : i < 5) (hR : RWs b i n f) : C_X3_close [.ref (b + 2 + 3 * i)] ρ f g (fun r ρ' f' g' => r = some (.int (iz (bz true))) ∧ ρ' = ρ ∧ f' = u2 f (b + 2 + 3 * i) 4 ((n : Int) + 1) ∧ g' = g) := by
  have hkd := kdR hb hi
  refine Ct.ofV (by decide) rfl (Nat.le_of_ble_eq_true rfl) ?_
  refine V_al0n dX3_close_0 ?_
  refine V_dup dX3_close_1 rfl ?_
  refine V_getI hkd.1 (kdlt hkd.1 (by decide)) fl_X3_9 hR.1 dX3_close_2 ?_
  refine V_iconst dX3_close_5 ?_
  refine V_iadd dX3_close_6 ?_
  refine V_putI hkd.1 (kdlt hkd.1 (by decide)) fl_X3_9 rfl dX3_close_7 ?_
  refine V_iconst dX3_close_10 ?_
  exact V_zreturn rfl (by first | exact Or.inl rfl | exact Or.inr rfl | (unfold bz; split <;> simp)) ⟨rfl, rfl, rfl, rfl⟩ dX3_close_11
end ROW
end CROWS

