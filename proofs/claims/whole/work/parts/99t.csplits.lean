section CSPLITS
variable {T : TT} {b : Nat} {ρ : RT} {g : JT} {φ : IT}
theorem w_strk2 {Q : QT} {f0 : IT} (hρ : Fx ρ) (hX : ∀ f : IT, (∀ a k, a ≠ 77 → f a k = f0 a k) → (∀ j, j < 24 → f 77 j = 0) → V_X5_strikeOut Q 21 [.ref 73, .null, .null] [] ρ f g) (i : Nat) (hi : i ≤ 24) (f : IT) (hf : ∀ a k, a ≠ 77 → f a k = f0 a k) (hz : ∀ j, j < i → f 77 j = 0) :
    V_X5_strikeOut Q 2 [.ref 73, .int (iz (i : Int)), .null] [] ρ f g := by
  refine V_il1n dX5_strikeOut_2 ?_
  refine V_bipush dX5_strikeOut_3 rfl ?_
  refine V_icmp_ge (tgt := 21) dX5_strikeOut_5 rfl (by unfold ri; omega) (by unfold ri; omega) (fun b5 => ?_) (fun b5 => ?_)
  · exact V_weak (by repeat (first | exact wk_n | refine wk_c (Or.inr rfl) ?_ | refine wk_c (Or.inl rfl) ?_)) (hX f hf (fun j hj => hz j (by omega)))
  · refine V_al0n dX5_strikeOut_8 ?_
    refine V_getR kk73 (by decide) fl_X5_21 (fx_73_3 hρ) dX5_strikeOut_9 ?_
    refine V_il1n dX5_strikeOut_12 ?_
    refine V_iconst dX5_strikeOut_13 ?_
    refine V_zast (k := i) kk77 (by decide) (by first | rfl | omega) (by omega) (by first | decide | assumption | omega) (by first | exact Or.inl rfl | exact Or.inr rfl | (unfold bz; split <;> simp)) dX5_strikeOut_14 ?_
    refine V_inc1 dX5_strikeOut_15 (by decide) rfl ?_
    refine V_goto (tgt := 2) dX5_strikeOut_18 rfl ?_
    exact w_strk2 hρ hX (i + 1) (by omega) _ (fun a k ha => (u2_o (by omega)).trans (hf a k ha)) (fun j hj => by by_cases e : j = i; (rw [e]; exact u2_s); exact u2_n (by omega) (hz j (by omega)))
termination_by 24 - i
theorem w_strk28 {Q : QT} {f0 : IT} (hρ : Fx ρ) (hk : TOK T) (hS : NSm T f0 φ) {C : Nat → Bool} (hX : ∀ f : IT, (∀ a k, a ≠ 77 → f a k = f0 a k) → (∀ j, j < 24 → f 77 j = bz (!(C j))) → Q none ρ f g)
    (i : Nat) (hi : i ≤ kB φ) (e : Int) (he : e = (i : Int) - 1) (f : IT) (hf : ∀ a k, a ≠ 77 → f a k = f0 a k) (c : Nat → Bool) (h1 : ∀ j, j < 24 → f 77 j = bz (!(c j))) (hC : C = cRun (φ 142) i c) :
    V_X5_strikeOut Q 28 [.ref 73, .int (iz e), .null] [] ρ f g := by
  have hN := hS.1
  have hK := kB_rng hN
  cases i with
  | zero =>
    simp only [cRun] at hC
    subst hC
    refine V_il1n dX5_strikeOut_28 ?_
    refine V_if_lt (tgt := 99) dX5_strikeOut_29 rfl (by unfold ri; omega) (fun b29 => ?_) (fun b29 => ?_)
    · exact V_return rfl (hX f hf h1) dX5_strikeOut_99
    · exfalso; omega
  | succ j =>
    have ee : e = (j : Int) := by omega
    subst ee
    have hn := hN.2.2 j (by omega)
    have h5 := hk.me
    simp only [cRun] at hC
    obtain ⟨m1, m2, m3⟩ := hS.2.2.2 j (by omega)
    have e0 : f 74 j = φ 142 (4 * j) := (hf 74 j (by omega)).trans m1
    have e3 : f 76 j = φ 142 (4 * j + 3) := (hf 76 j (by omega)).trans m3
    refine V_il1n dX5_strikeOut_28 ?_
    refine V_if_lt (tgt := 99) dX5_strikeOut_29 rfl (by unfold ri; omega) (fun b29 => ?_) (fun b29 => ?_)
    · exfalso; omega
    · refine V_al0n dX5_strikeOut_32 ?_
      refine V_getR kk73 (by decide) fl_X5_11 (fx_73_0 hρ) dX5_strikeOut_33 ?_
      refine V_il1n dX5_strikeOut_36 ?_
      refine V_iald (k := j) kk74 (by decide) (by first | rfl | omega) (by omega) (by first | decide | assumption | omega) e0 dX5_strikeOut_37 ?_
      refine V_iconst dX5_strikeOut_38 ?_
      refine V_icmp_ne (tgt := 55) dX5_strikeOut_39 rfl (by unfold ri; omega) (by unfold ri; omega) (fun b39 => ?_) (fun b39 => ?_)
      · refine V_iconst dX5_strikeOut_55 ?_
        refine V_is2n dX5_strikeOut_56 (by decide) rfl ?_
        refine V_il2n dX5_strikeOut_57 ?_
        refine V_if_eq (tgt := 93) dX5_strikeOut_58 rfl (by unfold ri; decide) (fun b58 => ?_) (fun b58 => by exfalso; revert b58; decide)
        refine V_inc1 dX5_strikeOut_93 (by decide) rfl ?_
        refine V_goto (tgt := 28) dX5_strikeOut_96 rfl ?_
        have hs : cstp (φ 142) j c = c := by unfold cstp; rw [if_neg (by simp; intros; omega)]
        rw [hs] at hC
        exact V_weak (by repeat (first | exact wk_n | refine wk_c (Or.inr rfl) ?_ | refine wk_c (Or.inl rfl) ?_)) (w_strk28 hρ hk hS hX j (by omega) _ (by omega) f hf c h1 hC)
      · refine V_al0n dX5_strikeOut_42 ?_
        refine V_getR kk73 (by decide) fl_X5_21 (fx_73_3 hρ) dX5_strikeOut_43 ?_
        refine V_il1n dX5_strikeOut_46 ?_
        refine V_zald (k := j) kk77 (by decide) (by first | rfl | omega) (by omega) (by first | decide | assumption | omega) (h1 j (by omega)) dX5_strikeOut_47 ?_
        refine V_bf (tgt := 55) dX5_strikeOut_48 rfl (fun b48 => ?_) (fun b48 => ?_)
        · refine V_iconst dX5_strikeOut_55 ?_
          refine V_is2n dX5_strikeOut_56 (by decide) rfl ?_
          refine V_il2n dX5_strikeOut_57 ?_
          refine V_if_eq (tgt := 93) dX5_strikeOut_58 rfl (by unfold ri; decide) (fun b58 => ?_) (fun b58 => by exfalso; revert b58; decide)
          refine V_inc1 dX5_strikeOut_93 (by decide) rfl ?_
          refine V_goto (tgt := 28) dX5_strikeOut_96 rfl ?_
          have hs : cstp (φ 142) j c = c := by unfold cstp; rw [if_neg (by simp at b48; simp [b48])]
          rw [hs] at hC
          exact V_weak (by repeat (first | exact wk_n | refine wk_c (Or.inr rfl) ?_ | refine wk_c (Or.inl rfl) ?_)) (w_strk28 hρ hk hS hX j (by omega) _ (by omega) f hf c h1 hC)
        · refine V_iconst dX5_strikeOut_51 ?_
          refine V_goto (tgt := 56) dX5_strikeOut_52 rfl ?_
          refine V_is2n dX5_strikeOut_56 (by decide) rfl ?_
          refine V_il2n dX5_strikeOut_57 ?_
          refine V_if_eq (tgt := 93) dX5_strikeOut_58 rfl (by unfold ri; decide) (fun b58 => by exfalso; revert b58; decide) (fun b58 => ?_)
          refine V_al0n dX5_strikeOut_61 ?_
          refine V_getR kk73 (by decide) fl_X5_18 (fx_73_2 hρ) dX5_strikeOut_62 ?_
          refine V_il1n dX5_strikeOut_65 ?_
          refine V_iald (k := j) kk76 (by decide) (by first | rfl | omega) (by omega) (by first | decide | assumption | omega) e3 dX5_strikeOut_66 ?_
          refine V_if_lt (tgt := 93) dX5_strikeOut_67 rfl (by unfold ri; omega) (fun b67 => ?_) (fun b67 => ?_)
          · exfalso; omega
          · refine V_al0n dX5_strikeOut_70 ?_
            refine V_getR kk73 (by decide) fl_X5_18 (fx_73_2 hρ) dX5_strikeOut_71 ?_
            refine V_il1n dX5_strikeOut_74 ?_
            refine V_iald (k := j) kk76 (by decide) (by first | rfl | omega) (by omega) (by first | decide | assumption | omega) e3 dX5_strikeOut_75 ?_
            refine V_bipush dX5_strikeOut_76 rfl ?_
            refine V_icmp_ge (tgt := 93) dX5_strikeOut_78 rfl (by unfold ri; omega) (by unfold ri; omega) (fun b78 => ?_) (fun b78 => ?_)
            · exfalso; omega
            · refine V_al0n dX5_strikeOut_81 ?_
              refine V_getR kk73 (by decide) fl_X5_21 (fx_73_3 hρ) dX5_strikeOut_82 ?_
              refine V_al0n dX5_strikeOut_85 ?_
              refine V_getR kk73 (by decide) fl_X5_18 (fx_73_2 hρ) dX5_strikeOut_86 ?_
              refine V_il1n dX5_strikeOut_89 ?_
              refine V_iald (k := j) kk76 (by decide) (by first | rfl | omega) (by omega) (by first | decide | assumption | omega) e3 dX5_strikeOut_90 ?_
              refine V_iconst dX5_strikeOut_91 ?_
              refine V_zast (k := (φ 142 (4 * j + 3)).toNat) kk77 (by decide) (by first | rfl | omega) (by omega) (by first | decide | assumption | omega) (by first | exact Or.inl rfl | exact Or.inr rfl | (unfold bz; split <;> simp)) dX5_strikeOut_92 ?_
              refine V_inc1 dX5_strikeOut_93 (by decide) rfl ?_
              refine V_goto (tgt := 28) dX5_strikeOut_96 rfl ?_
              have hs : cstp (φ 142) j c = fun q => if q = (φ 142 (4 * j + 3)).toNat then false else c q := by unfold cstp; rw [if_pos (by simp at b48; rw [b48]; simp; omega)]
              exact V_weak (by repeat (first | exact wk_n | refine wk_c (Or.inr rfl) ?_ | refine wk_c (Or.inl rfl) ?_)) (w_strk28 hρ hk hS hX j (by omega) _ (by omega) (u2 f 77 (φ 142 (4 * j + 3)).toNat 1) (fun a k ha => (u2_o (by omega)).trans (hf a k ha)) _ (fun q hq => by rw [hs]; simp only [u2]; by_cases eq : q = (φ 142 (4 * j + 3)).toNat; (simp [eq, bz]); (simp [eq]; exact h1 q hq)) hC)
termination_by i
theorem c_strikeOut {f : IT} (hρ : Fx ρ) (hk : TOK T) (hS : NSm T f φ) : C_X5_strikeOut [.ref 73] ρ f g (fun r ρ' f' g' => r = none ∧ ρ' = ρ ∧ (∀ a k, a ≠ 77 → f' a k = f a k) ∧ (∀ j, j < 24 → f' 77 j = bz (!(cRun (φ 142) (kB φ) (fun _ => true) j))) ∧ g' = g) := by
  have hX : ∀ f1 : IT, (∀ a k, a ≠ 77 → f1 a k = f a k) → (∀ j, j < 24 → f1 77 j = 0) → V_X5_strikeOut (fun r ρ' f' g' => r = none ∧ ρ' = ρ ∧ (∀ a k, a ≠ 77 → f' a k = f a k) ∧ (∀ j, j < 24 → f' 77 j = bz (!(cRun (φ 142) (kB φ) (fun _ => true) j))) ∧ g' = g) 21 [.ref 73, .null, .null] [] ρ f1 g := by
    intro f1 hf hz
    have hS1 : NSm T f1 φ := hS.cg (hf 73 4 (by omega)) (hf 73 5 (by omega)) (fun a k z => hf a k (by omega))
    refine V_al0n dX5_strikeOut_21 ?_
    refine V_callV (as := []) ml_X5_80 im_X5_knownSize se_X5_knownSize kk73 (by decide) (by decide) dX5_strikeOut_22 rfl rfl (by decide) (by decide) (Nat.le_of_ble_eq_true rfl) (by decide) (by decide) rfl (c_knownSize hρ hS1) ?_
    refine pq4 ?_
    refine V_iconst dX5_strikeOut_25 ?_
    refine V_isub dX5_strikeOut_26 ?_
    refine V_is1n dX5_strikeOut_27 (by decide) rfl ?_
    exact w_strk28 hρ hk hS (fun f' a1 a2 => ⟨rfl, rfl, a1, a2, rfl⟩) (kB φ) (by omega) _ rfl f1 hf (fun _ => true) (fun j hj => (hz j hj).trans rfl) rfl
  refine Ct.ofV (by decide) rfl (Nat.le_of_ble_eq_true rfl) ?_
  refine V_iconst dX5_strikeOut_0 ?_
  refine V_is1n dX5_strikeOut_1 (by decide) rfl ?_
  exact w_strk2 hρ hX 0 (by omega) f (fun _ _ _ => rfl) (fun j hj => by omega)
/-- what is due: the note's tenths in its cell, the last stretch of its plan -/
def expF (p k : Nat) (v : Int) (f : IT) : IT := u2 (u2 (if f 78 (p * 6 + k) ≠ -1 ∧ f 78 (p * 6 + k) ≠ v then u2 f 73 8 1 else f) 78 (p * 6 + k) v) 79 p (if f 79 p < (k : Int) then (k : Int) else f 79 p)
theorem c_expect {f : IT} (hρ : Fx ρ) {p k : Nat} (hp : p < 5) (hk : k < 6) {v : Int} (rv : ri v) (r78 : ri (f 78 (p * 6 + k))) (r79 : ri (f 79 p)) : C_X5_expect [.ref 73, .int (iz ((p : Int) * 6 + (k : Int))), .int (iz v)] ρ f g (fun r ρ' f' g' => r = none ∧ ρ' = ρ ∧ f' = expF p k v f ∧ g' = g) := by
  have hq : p * 6 + k < 30 := by omega
  have ei : (p : Int) * 6 + (k : Int) = ((p * 6 + k : Nat) : Int) := by omega
  have ed : iz ((p : Int) * 6 + (k : Int)) / iz 6 = iz (p : Int) := by
    rw [iz_div (by omega) (by omega) (by unfold ri; omega) (by unfold ri; omega)]
    congr 1
    omega
  have er : iz ((p : Int) * 6 + (k : Int)) - iz ((p : Int) * 6 + (k : Int)) / iz 6 * iz 6 = iz (k : Int) := by
    rw [iz_rem (by omega) (by omega) (by unfold ri; omega) (by unfold ri; omega)]
    congr 1
    omega
  have en : f 78 (p * 6 + k) = -1 ∨ f 78 (p * 6 + k) = v → expF p k v f = u2 (u2 f 78 (p * 6 + k) v) 79 p (if f 79 p < (k : Int) then (k : Int) else f 79 p) := fun z => by
    unfold expF
    rw [if_neg (show ¬ (f 78 (p * 6 + k) ≠ -1 ∧ f 78 (p * 6 + k) ≠ v) by omega)]
  have ey : f 78 (p * 6 + k) ≠ -1 ∧ f 78 (p * 6 + k) ≠ v → expF p k v f = u2 (u2 (u2 f 73 8 1) 78 (p * 6 + k) v) 79 p (if f 79 p < (k : Int) then (k : Int) else f 79 p) := fun z => by
    unfold expF
    rw [if_pos z]
  refine Ct.ofV (by decide) rfl (Nat.le_of_ble_eq_true rfl) ?_
  refine V_il1n dX5_expect_0 ?_
  refine V_if_lt (tgt := 10) dX5_expect_1 rfl (by unfold ri; omega) (fun b1 => ?_) (fun b1 => ?_)
  · exfalso; omega
  · refine V_il1n dX5_expect_4 ?_
    refine V_bipush dX5_expect_5 rfl ?_
    refine V_icmp_lt (tgt := 11) dX5_expect_7 rfl (by unfold ri; omega) (by unfold ri; omega) (fun b7 => ?_) (fun b7 => ?_)
    · refine V_al0n dX5_expect_11 ?_
      refine V_getR kk73 (by decide) fl_X5_32 (fx_73_6 hρ) dX5_expect_12 ?_
      refine V_il1n dX5_expect_15 ?_
      refine V_iald (k := (p * 6 + k)) kk78 (by decide) ei (by omega) (by first | decide | assumption | omega) rfl dX5_expect_16 ?_
      refine V_iconst dX5_expect_17 ?_
      refine V_icmp_eq (tgt := 36) dX5_expect_18 rfl r78 (by unfold ri; omega) (fun b18 => ?_) (fun b18 => ?_)
      · refine V_al0n dX5_expect_36 ?_
        refine V_getR kk73 (by decide) fl_X5_32 (fx_73_6 hρ) dX5_expect_37 ?_
        refine V_il1n dX5_expect_40 ?_
        refine V_il2n dX5_expect_41 ?_
        refine V_iast (k := (p * 6 + k)) kk78 (by decide) ei (by omega) (by first | decide | assumption | omega) dX5_expect_42 ?_
        refine V_il1n dX5_expect_43 ?_
        refine V_bipush dX5_expect_44 rfl ?_
        refine V_idiv dX5_expect_46 (iz_ne (by unfold ri; omega) (by omega)) ed ?_
        refine V_is3n dX5_expect_47 (by decide) rfl ?_
        refine V_al0n dX5_expect_48 ?_
        refine V_getR kk73 (by decide) fl_X5_35 (fx_73_7 hρ) dX5_expect_49 ?_
        refine V_il3n dX5_expect_52 ?_
        refine V_al0n dX5_expect_53 ?_
        refine V_getR kk73 (by decide) fl_X5_35 (fx_73_7 hρ) dX5_expect_54 ?_
        refine V_il3n dX5_expect_57 ?_
        refine V_iald (k := p) kk79 (by decide) (by first | rfl | omega) (by omega) (by first | decide | assumption | omega) (u2_n (by omega) rfl) dX5_expect_58 ?_
        refine V_il1n dX5_expect_59 ?_
        refine V_bipush dX5_expect_60 rfl ?_
        refine V_irem dX5_expect_62 (iz_ne (by unfold ri; omega) (by omega)) er ?_
        refine V_mmax ml_X5_87 sm_J9_max_7cf53 dX5_expect_63 r79 (by unfold ri; omega) (by decide) (Nat.le_of_ble_eq_true rfl) (by decide) (by decide) ?_
        refine V_iast (k := p) kk79 (by decide) (by first | rfl | omega) (by omega) (by first | decide | assumption | omega) dX5_expect_66 ?_
        exact V_return rfl ⟨rfl, rfl, by first | (rw [en (by omega)]) | (rw [ey (by omega)]), rfl⟩ dX5_expect_67
      · refine V_al0n dX5_expect_21 ?_
        refine V_getR kk73 (by decide) fl_X5_32 (fx_73_6 hρ) dX5_expect_22 ?_
        refine V_il1n dX5_expect_25 ?_
        refine V_iald (k := (p * 6 + k)) kk78 (by decide) ei (by omega) (by first | decide | assumption | omega) rfl dX5_expect_26 ?_
        refine V_il2n dX5_expect_27 ?_
        refine V_icmp_eq (tgt := 36) dX5_expect_28 rfl r78 rv (fun b28 => ?_) (fun b28 => ?_)
        · refine V_al0n dX5_expect_36 ?_
          refine V_getR kk73 (by decide) fl_X5_32 (fx_73_6 hρ) dX5_expect_37 ?_
          refine V_il1n dX5_expect_40 ?_
          refine V_il2n dX5_expect_41 ?_
          refine V_iast (k := (p * 6 + k)) kk78 (by decide) ei (by omega) (by first | decide | assumption | omega) dX5_expect_42 ?_
          refine V_il1n dX5_expect_43 ?_
          refine V_bipush dX5_expect_44 rfl ?_
          refine V_idiv dX5_expect_46 (iz_ne (by unfold ri; omega) (by omega)) ed ?_
          refine V_is3n dX5_expect_47 (by decide) rfl ?_
          refine V_al0n dX5_expect_48 ?_
          refine V_getR kk73 (by decide) fl_X5_35 (fx_73_7 hρ) dX5_expect_49 ?_
          refine V_il3n dX5_expect_52 ?_
          refine V_al0n dX5_expect_53 ?_
          refine V_getR kk73 (by decide) fl_X5_35 (fx_73_7 hρ) dX5_expect_54 ?_
          refine V_il3n dX5_expect_57 ?_
          refine V_iald (k := p) kk79 (by decide) (by first | rfl | omega) (by omega) (by first | decide | assumption | omega) (u2_n (by omega) rfl) dX5_expect_58 ?_
          refine V_il1n dX5_expect_59 ?_
          refine V_bipush dX5_expect_60 rfl ?_
          refine V_irem dX5_expect_62 (iz_ne (by unfold ri; omega) (by omega)) er ?_
          refine V_mmax ml_X5_87 sm_J9_max_7cf53 dX5_expect_63 r79 (by unfold ri; omega) (by decide) (Nat.le_of_ble_eq_true rfl) (by decide) (by decide) ?_
          refine V_iast (k := p) kk79 (by decide) (by first | rfl | omega) (by omega) (by first | decide | assumption | omega) dX5_expect_66 ?_
          exact V_return rfl ⟨rfl, rfl, by first | (rw [en (by omega)]) | (rw [ey (by omega)]), rfl⟩ dX5_expect_67
        · refine V_al0n dX5_expect_31 ?_
          refine V_iconst dX5_expect_32 ?_
          refine V_putZ kk73 (by decide) fl_X5_38 rfl (by first | exact Or.inl rfl | exact Or.inr rfl | (unfold bz; split <;> simp)) dX5_expect_33 ?_
          refine V_al0n dX5_expect_36 ?_
          refine V_getR kk73 (by decide) fl_X5_32 (fx_73_6 hρ) dX5_expect_37 ?_
          refine V_il1n dX5_expect_40 ?_
          refine V_il2n dX5_expect_41 ?_
          refine V_iast (k := (p * 6 + k)) kk78 (by decide) ei (by omega) (by first | decide | assumption | omega) dX5_expect_42 ?_
          refine V_il1n dX5_expect_43 ?_
          refine V_bipush dX5_expect_44 rfl ?_
          refine V_idiv dX5_expect_46 (iz_ne (by unfold ri; omega) (by omega)) ed ?_
          refine V_is3n dX5_expect_47 (by decide) rfl ?_
          refine V_al0n dX5_expect_48 ?_
          refine V_getR kk73 (by decide) fl_X5_35 (fx_73_7 hρ) dX5_expect_49 ?_
          refine V_il3n dX5_expect_52 ?_
          refine V_al0n dX5_expect_53 ?_
          refine V_getR kk73 (by decide) fl_X5_35 (fx_73_7 hρ) dX5_expect_54 ?_
          refine V_il3n dX5_expect_57 ?_
          refine V_iald (k := p) kk79 (by decide) (by first | rfl | omega) (by omega) (by first | decide | assumption | omega) (u2_n (by omega) (u2_n (by omega) rfl)) dX5_expect_58 ?_
          refine V_il1n dX5_expect_59 ?_
          refine V_bipush dX5_expect_60 rfl ?_
          refine V_irem dX5_expect_62 (iz_ne (by unfold ri; omega) (by omega)) er ?_
          refine V_mmax ml_X5_87 sm_J9_max_7cf53 dX5_expect_63 r79 (by unfold ri; omega) (by decide) (Nat.le_of_ble_eq_true rfl) (by decide) (by decide) ?_
          refine V_iast (k := p) kk79 (by decide) (by first | rfl | omega) (by omega) (by first | decide | assumption | omega) dX5_expect_66 ?_
          exact V_return rfl ⟨rfl, rfl, by first | (rw [en (by omega)]) | (rw [ey (by omega)]), rfl⟩ dX5_expect_67
    · exfalso; omega
end CSPLITS

