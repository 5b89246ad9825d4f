section CLAWS2
variable {ρ : RT} {g : JT} {b : Nat} {f : IT}
/-- a knot more -/
def ladF (b n : Nat) (s v : Int) (f : IT) : IT := if s = 1 ∧ 0 ≤ v ∧ v < 8 then u2 (u2 (u2 (u2 f (b + 18) n s) (b + 19) n v) (b + 17) 2 ((n : Int) + 1)) (b + 24) v.toNat 1 else u2 (u2 (u2 f (b + 18) n s) (b + 19) n v) (b + 17) 2 ((n : Int) + 1)
theorem c_countKnot (hb : b = 5 ∨ b = 30) {k : Int} (h8 : f (b + 17) 8 = k) (rk : ri k) : C_X1_countKnot [.ref (b + 17)] ρ f g (fun r ρ' f' g' => r = some (.int (iz (bz (decide (k < 64))))) ∧ ρ' = ρ ∧ f' = (if k < 64 then u2 f (b + 17) 8 (k + 1) else f) ∧ g' = g) := by
  refine Ct.ofV (by decide) rfl (Nat.le_of_ble_eq_true rfl) ?_
  by_cases c : k < 64
  · rw [decide_eq_true c, if_pos c]
    refine V_al0n dX1_countKnot_0 ?_
    refine V_getI (kb_17 hb) (kl_17 hb) fl_X1_39 h8 dX1_countKnot_1 ?_
    refine V_bipush dX1_countKnot_4 rfl ?_
    refine V_icmp_lt (tgt := 11) dX1_countKnot_6 rfl rk (by unfold ri; omega) (fun b6 => ?_) (fun b6 => ?_)
    · refine V_al0n dX1_countKnot_11 ?_
      refine V_dup dX1_countKnot_12 rfl ?_
      refine V_getI (kb_17 hb) (kl_17 hb) fl_X1_39 h8 dX1_countKnot_13 ?_
      refine V_iconst dX1_countKnot_16 ?_
      refine V_iadd dX1_countKnot_17 ?_
      refine V_putI (kb_17 hb) (kl_17 hb) fl_X1_39 rfl dX1_countKnot_18 ?_
      refine V_iconst dX1_countKnot_21 ?_
      exact V_zreturn rfl (by first | exact Or.inl rfl | exact Or.inr rfl | (unfold bz; split <;> simp)) ⟨rfl, rfl, rfl, rfl⟩ dX1_countKnot_22
    · exfalso; omega
  · rw [decide_eq_false c, if_neg c]
    refine V_al0n dX1_countKnot_0 ?_
    refine V_getI (kb_17 hb) (kl_17 hb) fl_X1_39 h8 dX1_countKnot_1 ?_
    refine V_bipush dX1_countKnot_4 rfl ?_
    refine V_icmp_lt (tgt := 11) dX1_countKnot_6 rfl rk (by unfold ri; omega) (fun b6 => ?_) (fun b6 => ?_)
    · exfalso; omega
    · refine V_iconst dX1_countKnot_9 ?_
      exact V_zreturn rfl (by first | exact Or.inl rfl | exact Or.inr rfl | (unfold bz; split <;> simp)) ⟨rfl, rfl, rfl, rfl⟩ dX1_countKnot_10
theorem c_lopen (hρ : Fx ρ) (hb : b = 5 ∨ b = 30) {w : Nat} (hw : w < 8) : C_X1_open [.ref (b + 17), .int (iz (w : Int))] ρ f g (fun r ρ' f' g' => r = none ∧ ρ' = ρ ∧ f' = u2 f (b + 20) w (f (b + 17) 2) ∧ g' = g) := by
  refine Ct.ofV (by decide) rfl (Nat.le_of_ble_eq_true rfl) ?_
  refine V_al0n dX1_open_0 ?_
  refine V_getR (kb_17 hb) (kl_17 hb) fl_X1_22 (fb_17_3 hρ hb) dX1_open_1 ?_
  refine V_il1n dX1_open_4 ?_
  refine V_al0n dX1_open_5 ?_
  refine V_getI (kb_17 hb) (kl_17 hb) fl_X1_18 rfl dX1_open_6 ?_
  refine V_iast (k := w) (kb_20 hb) (kl_20 hb) (by first | rfl | omega) (by omega) (by first | decide | assumption | omega) dX1_open_9 ?_
  exact V_return rfl ⟨rfl, rfl, rfl, rfl⟩ dX1_open_10
theorem c_lclose (hρ : Fx ρ) (hb : b = 5 ∨ b = 30) {w : Nat} (hw : w < 8) : C_X1_close [.ref (b + 17), .int (iz (w : Int))] ρ f g (fun r ρ' f' g' => r = some (.int (iz (bz true))) ∧ ρ' = ρ ∧ f' = u2 f (b + 21) w (f (b + 17) 2) ∧ g' = g) := by
  refine Ct.ofV (by decide) rfl (Nat.le_of_ble_eq_true rfl) ?_
  refine V_al0n dX1_close_0 ?_
  refine V_getR (kb_17 hb) (kl_17 hb) fl_X1_25 (fb_17_4 hρ hb) dX1_close_1 ?_
  refine V_il1n dX1_close_4 ?_
  refine V_al0n dX1_close_5 ?_
  refine V_getI (kb_17 hb) (kl_17 hb) fl_X1_18 rfl dX1_close_6 ?_
  refine V_iast (k := w) (kb_21 hb) (kl_21 hb) (by first | rfl | omega) (by omega) (by first | decide | assumption | omega) dX1_close_9 ?_
  refine V_iconst dX1_close_10 ?_
  exact V_zreturn rfl (by first | exact Or.inl rfl | exact Or.inr rfl | (unfold bz; split <;> simp)) ⟨rfl, rfl, rfl, rfl⟩ dX1_close_11
theorem c_ladd (hρ : Fx ρ) (hb : b = 5 ∨ b = 30) {n : Nat} (hn : n < 64) (h2 : f (b + 17) 2 = (n : Int)) {s v : Int} (rs : ri s) (rv : ri v) : C_X1_add [.ref (b + 17), .int (iz s), .int (iz v)] ρ f g (fun r ρ' f' g' => r = none ∧ ρ' = ρ ∧ f' = ladF b n s v f ∧ g' = g) := by
  have h2b : (u2 f (b + 18) n s) (b + 17) 2 = (n : Int) := u2_n (by omega) h2
  have h2c : (u2 (u2 f (b + 18) n s) (b + 19) n v) (b + 17) 2 = (n : Int) := u2_n (by omega) h2b
  refine Ct.ofV (by decide) rfl (Nat.le_of_ble_eq_true rfl) ?_
  unfold ladF
  by_cases c : s = 1 ∧ 0 ≤ v ∧ v < 8
  · rw [if_pos c]
    refine V_al0n dX1_add_0 ?_
    refine V_getI (kb_17 hb) (kl_17 hb) fl_X1_18 h2 dX1_add_1 ?_
    refine V_bipush dX1_add_4 rfl ?_
    refine V_icmp_lt (tgt := 10) dX1_add_6 rfl (by unfold ri; omega) (by unfold ri; omega) (fun b6 => ?_) (fun b6 => ?_)
    · refine V_al0n dX1_add_10 ?_
      refine V_getR (kb_17 hb) (kl_17 hb) fl_X1_11 (fb_17_0 hρ hb) dX1_add_11 ?_
      refine V_al0n dX1_add_14 ?_
      refine V_getI (kb_17 hb) (kl_17 hb) fl_X1_18 h2 dX1_add_15 ?_
      refine V_il1n dX1_add_18 ?_
      refine V_iast (k := n) (kb_18 hb) (kl_18 hb) (by first | rfl | omega) (by omega) (by first | decide | assumption | omega) dX1_add_19 ?_
      refine V_al0n dX1_add_20 ?_
      refine V_getR (kb_17 hb) (kl_17 hb) fl_X1_15 (fb_17_1 hρ hb) dX1_add_21 ?_
      refine V_al0n dX1_add_24 ?_
      refine V_getI (kb_17 hb) (kl_17 hb) fl_X1_18 h2b dX1_add_25 ?_
      refine V_il2n dX1_add_28 ?_
      refine V_iast (k := n) (kb_19 hb) (kl_19 hb) (by first | rfl | omega) (by omega) (by first | decide | assumption | omega) dX1_add_29 ?_
      refine V_al0n dX1_add_30 ?_
      refine V_dup dX1_add_31 rfl ?_
      refine V_getI (kb_17 hb) (kl_17 hb) fl_X1_18 h2c dX1_add_32 ?_
      refine V_iconst dX1_add_35 ?_
      refine V_iadd dX1_add_36 ?_
      refine V_putI (kb_17 hb) (kl_17 hb) fl_X1_18 rfl dX1_add_37 ?_
      refine V_il1n dX1_add_40 ?_
      refine V_iconst dX1_add_41 ?_
      refine V_icmp_ne (tgt := 62) dX1_add_42 rfl rs (by unfold ri; omega) (fun b42 => ?_) (fun b42 => ?_)
      · exfalso; omega
      · refine V_il2n dX1_add_45 ?_
        refine V_if_lt (tgt := 62) dX1_add_46 rfl rv (fun b46 => ?_) (fun b46 => ?_)
        · exfalso; omega
        · refine V_il2n dX1_add_49 ?_
          refine V_bipush dX1_add_50 rfl ?_
          refine V_icmp_ge (tgt := 62) dX1_add_52 rfl rv (by unfold ri; omega) (fun b52 => ?_) (fun b52 => ?_)
          · exfalso; omega
          · refine V_al0n dX1_add_55 ?_
            refine V_getR (kb_17 hb) (kl_17 hb) fl_X1_35 (fb_17_7 hρ hb) dX1_add_56 ?_
            refine V_il2n dX1_add_59 ?_
            refine V_iconst dX1_add_60 ?_
            refine V_zast (k := v.toNat) (kb_24 hb) (kl_24 hb) (by first | rfl | omega) (by omega) (by first | decide | assumption | omega) (by first | exact Or.inl rfl | exact Or.inr rfl | (unfold bz; split <;> simp)) dX1_add_61 ?_
            exact V_return rfl ⟨rfl, rfl, rfl, rfl⟩ dX1_add_62
    · exfalso; omega
  · rw [if_neg c]
    refine V_al0n dX1_add_0 ?_
    refine V_getI (kb_17 hb) (kl_17 hb) fl_X1_18 h2 dX1_add_1 ?_
    refine V_bipush dX1_add_4 rfl ?_
    refine V_icmp_lt (tgt := 10) dX1_add_6 rfl (by unfold ri; omega) (by unfold ri; omega) (fun b6 => ?_) (fun b6 => ?_)
    · refine V_al0n dX1_add_10 ?_
      refine V_getR (kb_17 hb) (kl_17 hb) fl_X1_11 (fb_17_0 hρ hb) dX1_add_11 ?_
      refine V_al0n dX1_add_14 ?_
      refine V_getI (kb_17 hb) (kl_17 hb) fl_X1_18 h2 dX1_add_15 ?_
      refine V_il1n dX1_add_18 ?_
      refine V_iast (k := n) (kb_18 hb) (kl_18 hb) (by first | rfl | omega) (by omega) (by first | decide | assumption | omega) dX1_add_19 ?_
      refine V_al0n dX1_add_20 ?_
      refine V_getR (kb_17 hb) (kl_17 hb) fl_X1_15 (fb_17_1 hρ hb) dX1_add_21 ?_
      refine V_al0n dX1_add_24 ?_
      refine V_getI (kb_17 hb) (kl_17 hb) fl_X1_18 h2b dX1_add_25 ?_
      refine V_il2n dX1_add_28 ?_
      refine V_iast (k := n) (kb_19 hb) (kl_19 hb) (by first | rfl | omega) (by omega) (by first | decide | assumption | omega) dX1_add_29 ?_
      refine V_al0n dX1_add_30 ?_
      refine V_dup dX1_add_31 rfl ?_
      refine V_getI (kb_17 hb) (kl_17 hb) fl_X1_18 h2c dX1_add_32 ?_
      refine V_iconst dX1_add_35 ?_
      refine V_iadd dX1_add_36 ?_
      refine V_putI (kb_17 hb) (kl_17 hb) fl_X1_18 rfl dX1_add_37 ?_
      refine V_il1n dX1_add_40 ?_
      refine V_iconst dX1_add_41 ?_
      refine V_icmp_ne (tgt := 62) dX1_add_42 rfl rs (by unfold ri; omega) (fun b42 => ?_) (fun b42 => ?_)
      · exact V_return rfl ⟨rfl, rfl, rfl, rfl⟩ dX1_add_62
      · refine V_il2n dX1_add_45 ?_
        refine V_if_lt (tgt := 62) dX1_add_46 rfl rv (fun b46 => ?_) (fun b46 => ?_)
        · exact V_return rfl ⟨rfl, rfl, rfl, rfl⟩ dX1_add_62
        · refine V_il2n dX1_add_49 ?_
          refine V_bipush dX1_add_50 rfl ?_
          refine V_icmp_ge (tgt := 62) dX1_add_52 rfl rv (by unfold ri; omega) (fun b52 => ?_) (fun b52 => ?_)
          · exact V_return rfl ⟨rfl, rfl, rfl, rfl⟩ dX1_add_62
          · exfalso; omega
    · exfalso; omega
theorem c_letWait (hρ : Fx ρ) {w : Nat} (hw : w < 72) (h2 : f 2 2 = (w : Int)) {s : Int} : C_X2_letWait [.ref 2, .int (iz s)] ρ f g (fun r ρ' f' g' => r = some (.int (iz (bz true))) ∧ ρ' = ρ ∧ f' = u2 (u2 f 3 w s) 2 2 ((w : Int) + 1) ∧ g' = g) := by
  refine Ct.ofV (by decide) rfl (Nat.le_of_ble_eq_true rfl) ?_
  refine V_al0n dX2_letWait_0 ?_
  refine V_getI kk2 (by decide) fl_X2_17 h2 dX2_letWait_1 ?_
  refine V_al0n dX2_letWait_4 ?_
  refine V_getR kk2 (by decide) fl_X2_13 (fx_2_1 hρ) dX2_letWait_5 ?_
  refine V_alen kk3 (by decide) (by decide) dX2_letWait_8 ?_
  refine V_icmp_lt (tgt := 18) dX2_letWait_9 rfl (by unfold ri; omega) (by unfold ri; decide) (fun b9 => ?_) (fun b9 => ?_)
  · refine V_al0n dX2_letWait_18 ?_
    refine V_getR kk2 (by decide) fl_X2_13 (fx_2_1 hρ) dX2_letWait_19 ?_
    refine V_al0n dX2_letWait_22 ?_
    refine V_getI kk2 (by decide) fl_X2_17 h2 dX2_letWait_23 ?_
    refine V_il1n dX2_letWait_26 ?_
    refine V_iast (k := w) kk3 (by decide) (by first | rfl | omega) (by omega) (by first | decide | assumption | omega) dX2_letWait_27 ?_
    refine V_al0n dX2_letWait_28 ?_
    refine V_dup dX2_letWait_29 rfl ?_
    refine V_getI kk2 (by decide) fl_X2_17 (u2_n (by omega) h2) dX2_letWait_30 ?_
    refine V_iconst dX2_letWait_33 ?_
    refine V_iadd dX2_letWait_34 ?_
    refine V_putI kk2 (by decide) fl_X2_17 rfl dX2_letWait_35 ?_
    refine V_iconst dX2_letWait_38 ?_
    exact V_zreturn rfl (by first | exact Or.inl rfl | exact Or.inr rfl | (unfold bz; split <;> simp)) ⟨rfl, rfl, rfl, rfl⟩ dX2_letWait_39
  · exfalso; have : ¬ (w : Int) < 72 := b9; omega
end CLAWS2

