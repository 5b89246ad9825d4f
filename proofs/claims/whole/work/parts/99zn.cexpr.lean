section CEXPR
variable {ρ : RT} {g : JT} {b : Nat}
theorem LSR.kt {f f' φ : IT} (hb : b = 5 ∨ b = 30) (h : LSR b f φ) (k : ∀ a j, a ≠ 4 → f' a j = f a j) : LSR b f' φ := by
  obtain ⟨h1, h2, h3, h4, h5, h6⟩ := h
  exact ⟨h1.cg (k _ _ (by omega)) (fun j => k _ _ (by omega)) (fun j => k _ _ (by omega)) (fun j => k _ _ (by omega)) rfl rfl rfl, h2.cg (k _ _ (by omega)) (fun j => k _ _ (by omega)) rfl rfl, (k _ _ (by omega)).trans h3, (k _ _ (by omega)).trans h4, (k _ _ (by omega)).trans h5, (k _ _ (by omega)).trans h6⟩
theorem w_rex22 {Q : QT} {f0 : IT} (hρ : Fx ρ) (hb : b = 5 ∨ b = 30) {lo : Nat} {R : Bool × IT} (hF : ∀ (f' φ' : IT), R = (false, φ') → FLm f' φ' → SFr b f0 f' → Q (some (.int (iz (bz false)))) ρ f' g)
    (hT : ∀ (f' φ' : IT), R = (true, φ') → CUR f' φ' → LSR b f' φ' → SFr b f0 f' → Q (some (.int (iz (bz true)))) ρ f' g) (n i : Nat) (f φ : IT) (hp : PRE f φ) (hS : LSR b f φ) (H : SI lo φ) (hn : mu φ < n) (hi : i + mu φ ≤ 700) (hFr : SFr b f0 f) (hR : R = sumR n φ) :
    V_X2_readExpression Q 22 [.ref 2, .ref (b + 17), .int (iz (i : Int))] [] ρ f g := by
  obtain ⟨m, rfl⟩ : ∃ m, n = m + 1 := ⟨n - 1, by omega⟩
  rw [sumR] at hR
  have H0 := H
  obtain ⟨hK, h62, h63, HJ⟩ := H
  have go : ∀ f1 : IT, KT4 f f1 → CUR f1 φ → V_X2_readExpression Q 36 [.ref 2, .ref (b + 17), .int (iz (i : Int))] [] ρ f1 g := by
    intro f1 k1 hc1
    have hS1 : LSR b f1 φ := hS.kt hb (fun a j z => k1 a j (by omega))
    have hFr1 : SFr b f0 f1 := hFr.tr (SFr.kt k1)
    obtain ⟨q1, q2, q3, q4⟩ := hc1.rr hK
    have s62 := hS1.2.2.2.1
    have s60 := hS1.2.2.1
    have j60 := HJ.2.1
    by_cases ce : sgnB 59 φ = true ∧ φ 104 62 = 0 ∧ φ 104 60 ≤ 0
    · rw [if_pos ce] at hR
      rw [if_neg (by omega)] at HJ
      have e17 := q4.mpr ce.1
      have hset := c_settle (g := g) hρ hb (le := 1) (by omega) HJ hS1
      obtain ⟨hj, bk, -, -⟩ := bndF_ok (le := 1) (by omega) HJ
      refine V_al0n dX2_readExpression_36 ?_
      refine V_getR kk2 (by decide) fl_X2_42 (fx_2_0 hρ) dX2_readExpression_37 ?_
      refine V_getI kk4 (by decide) fl_X2_58 rfl dX2_readExpression_40 ?_
      refine V_bipush dX2_readExpression_43 rfl ?_
      refine V_icmp_ne (tgt := 70) dX2_readExpression_45 rfl (by unfold ri; omega) (by unfold ri; omega) (fun b45 => ?_) (fun b45 => ?_)
      · exfalso; omega
      · refine V_al0n dX2_readExpression_48 ?_
        refine V_getZ kk2 (by decide) fl_X2_24 rfl dX2_readExpression_49 ?_
        refine V_if_ne (tgt := 70) dX2_readExpression_52 rfl (by unfold ri; omega) (fun b52 => ?_) (fun b52 => ?_)
        · exfalso; omega
        · refine V_al0n dX2_readExpression_55 ?_
          refine V_getI kk2 (by decide) fl_X2_21 rfl dX2_readExpression_56 ?_
          refine V_if_ne (tgt := 70) dX2_readExpression_59 rfl (by unfold ri; omega) (fun b59 => ?_) (fun b59 => ?_)
          · exfalso; omega
          · refine V_al0n dX2_readExpression_62 ?_
            refine V_al1n dX2_readExpression_63 ?_
            refine V_iconst dX2_readExpression_64 ?_
            refine V_callV (as := [_, _]) ml_X2_167 im_X2_settle se_X2_settle kk2 (by decide) (by decide) dX2_readExpression_65 rfl rfl (by decide) (by decide) (Nat.le_of_ble_eq_true rfl) (by decide) (by decide) rfl (hset) ?_
            rintro r65 ρ65 f65 g65 ⟨rfl, s65_0, y1, y2, y3, y4, y5, s65_1⟩
            obtain rfl := s65_0.symm
            obtain rfl := s65_1.symm
            refine V_iconst dX2_readExpression_68 ?_
            exact V_zreturn rfl (by first | exact Or.inl rfl | exact Or.inr rfl | (unfold bz; split <;> simp)) (hT f65 _ hR (hc1.cg y2 (fun k => y1 1 k (by omega) (by omega) (by omega) (by omega) (by omega) (by omega) (by omega)) (funext fun j => bk _ _ (by omega) (by omega) (by omega)) (fun k z1 z2 => bk _ _ (by omega) (by omega) (by omega)) ⟨y3, y4⟩ ⟨bk _ _ (by omega) (by omega) (by omega), bk _ _ (by omega) (by omega) (by omega)⟩) y5 (hFr1.tr y1)) dX2_readExpression_69
    · rw [if_neg ce] at hR
      have h70 : V_X2_readExpression Q 70 [.ref 2, .ref (b + 17), .int (iz (i : Int))] [] ρ f1 g := by
        by_cases c62 : φ 104 62 = 1
        · rw [if_pos c62] at hR HJ
          obtain ⟨ok1, ok2, ok3⟩ := leafF_ok hK c62 h63 HJ
          have hval := c_readValue (g := g) hρ hb hc1 hK HJ hS1 h63
          refine V_al0n dX2_readExpression_70 ?_
          refine V_getZ kk2 (by decide) fl_X2_24 rfl dX2_readExpression_71 ?_
          refine V_if_eq (tgt := 88) dX2_readExpression_74 rfl (by unfold ri; omega) (fun b74 => ?_) (fun b74 => ?_)
          · exfalso; omega
          · refine V_al0n dX2_readExpression_77 ?_
            refine V_al1n dX2_readExpression_78 ?_
            refine V_callV (as := [_]) ml_X2_171 im_X2_readValue se_X2_readValue kk2 (by decide) (by decide) dX2_readExpression_79 rfl rfl (by decide) (by decide) (Nat.le_of_ble_eq_true rfl) (by decide) (by decide) rfl (hval) ?_
            rintro r79 ρ79 f79 g79 ⟨rfl, s79_0, y1, s79_1⟩
            obtain rfl := s79_0.symm
            obtain rfl := s79_1.symm
            refine V_bf (tgt := 98) dX2_readExpression_82 rfl (fun b82 => ?_) (fun b82 => ?_)
            · rw [thn_t b82] at hR
              obtain ⟨o1, o2, o3⟩ := ok3 b82
              refine V_inc2 dX2_readExpression_98 (by decide) rfl ?_
              refine V_goto (tgt := 22) dX2_readExpression_101 rfl ?_
              exact w_rex22 hρ hb hF hT m (i + 1) f79 _ (y1.2.1 b82).1 (y1.2.1 b82).2 o2 (by omega) (by omega) (hFr1.tr y1.1) hR
            · rw [thn_f b82] at hR
              refine V_goto (tgt := 96) dX2_readExpression_85 rfl ?_
              refine V_iconst dX2_readExpression_96 ?_
              exact V_zreturn rfl (by first | exact Or.inl rfl | exact Or.inr rfl | (unfold bz; split <;> simp)) (hF f79 _ hR (y1.2.2 b82) (hFr1.tr y1.1)) dX2_readExpression_97
        · rw [if_neg c62] at hR HJ
          obtain ⟨ok1, ok2, ok3⟩ := sgnF_ok hK (by omega) h63 HJ
          have hval := c_readBehind (g := g) hρ hb hc1 hK HJ hS1
          refine V_al0n dX2_readExpression_70 ?_
          refine V_getZ kk2 (by decide) fl_X2_24 rfl dX2_readExpression_71 ?_
          refine V_if_eq (tgt := 88) dX2_readExpression_74 rfl (by unfold ri; omega) (fun b74 => ?_) (fun b74 => ?_)
          · refine V_al0n dX2_readExpression_88 ?_
            refine V_al1n dX2_readExpression_89 ?_
            refine V_callV (as := [_]) ml_X2_174 im_X2_readBehindValue se_X2_readBehindValue kk2 (by decide) (by decide) dX2_readExpression_90 rfl rfl (by decide) (by decide) (Nat.le_of_ble_eq_true rfl) (by decide) (by decide) rfl (hval) ?_
            rintro r90 ρ90 f90 g90 ⟨rfl, s90_0, y1, s90_1⟩
            obtain rfl := s90_0.symm
            obtain rfl := s90_1.symm
            refine V_bf (tgt := 98) dX2_readExpression_93 rfl (fun b93 => ?_) (fun b93 => ?_)
            · rw [thn_t b93] at hR
              obtain ⟨o1, o2, o3⟩ := ok3 b93
              refine V_inc2 dX2_readExpression_98 (by decide) rfl ?_
              refine V_goto (tgt := 22) dX2_readExpression_101 rfl ?_
              exact w_rex22 hρ hb hF hT m (i + 1) f90 _ (y1.2.1 b93).1 (y1.2.1 b93).2 o2 (by omega) (by omega) (hFr1.tr y1.1) hR
            · rw [thn_f b93] at hR
              refine V_iconst dX2_readExpression_96 ?_
              exact V_zreturn rfl (by first | exact Or.inl rfl | exact Or.inr rfl | (unfold bz; split <;> simp)) (hF f90 _ hR (y1.2.2 b93) (hFr1.tr y1.1)) dX2_readExpression_97
          · exfalso; omega
      refine V_al0n dX2_readExpression_36 ?_
      refine V_getR kk2 (by decide) fl_X2_42 (fx_2_0 hρ) dX2_readExpression_37 ?_
      refine V_getI kk4 (by decide) fl_X2_58 rfl dX2_readExpression_40 ?_
      refine V_bipush dX2_readExpression_43 rfl ?_
      refine V_icmp_ne (tgt := 70) dX2_readExpression_45 rfl (by unfold ri; omega) (by unfold ri; omega) (fun b45 => ?_) (fun b45 => ?_)
      · exact h70
      · refine V_al0n dX2_readExpression_48 ?_
        refine V_getZ kk2 (by decide) fl_X2_24 rfl dX2_readExpression_49 ?_
        refine V_if_ne (tgt := 70) dX2_readExpression_52 rfl (by unfold ri; omega) (fun b52 => ?_) (fun b52 => ?_)
        · exact h70
        · refine V_al0n dX2_readExpression_55 ?_
          refine V_getI kk2 (by decide) fl_X2_21 rfl dX2_readExpression_56 ?_
          refine V_if_ne (tgt := 70) dX2_readExpression_59 rfl (by unfold ri; omega) (fun b59 => ?_) (fun b59 => ?_)
          · exact h70
          · exfalso; exact ce ⟨q4.mp (by omega), by omega, by omega⟩
  refine V_il2n dX2_readExpression_22 ?_
  refine V_sipush dX2_readExpression_23 rfl ?_
  refine V_icmp_gt (tgt := 104) dX2_readExpression_26 rfl (by unfold ri; omega) (by unfold ri; omega) (fun b26 => ?_) (fun b26 => ?_)
  · exfalso; omega
  · refine V_al0n dX2_readExpression_29 ?_
    refine V_getR kk2 (by decide) fl_X2_42 (fx_2_0 hρ) dX2_readExpression_30 ?_
    refine V_callV (as := []) ml_X2_55 im_X6_next se_X6_next kk4 (by decide) (by decide) dX2_readExpression_33 rfl rfl (by decide) (by decide) (Nat.le_of_ble_eq_true rfl) (by decide) (by decide) rfl (c_nextP hρ hp) ?_
    rintro r33 ρ33 f33 g33 ⟨rfl, s33_0, k33, c33, s33_1⟩
    obtain rfl := s33_0.symm
    obtain rfl := s33_1.symm
    exact go f33 k33 c33
termination_by n
theorem c_readExpr {f φ : IT} (hρ : Fx ρ) (hb : b = 5 ∨ b = 30) (hp : PRE f φ) (hK : PK φ) (hN : SRn b f φ) {lo : Nat} (h25 : φ 104 25 = (lo : Int)) (h61 : φ 104 61 = (lo : Int)) (h64 : lo ≤ 64) (h8 : f (b + 17) 8 = φ 104 61) (hmu : mu φ ≤ 700) :
    C_X2_readExpression [.ref 2, .ref (b + 17)] ρ f g (fun r ρ' f' g' => r = some (.int (iz (bz (sumF φ).1))) ∧ ρ' = ρ ∧ SFr b f f' ∧ ((sumF φ).1 = true → CUR f' (sumF φ).2 ∧ LSR b f' (sumF φ).2) ∧ ((sumF φ).1 = false → FLm f' (sumF φ).2) ∧ g' = g) := by
  obtain ⟨hsi, hsf, hsm⟩ := sumI_si hK h25 h61 h64
  have fo : ∀ a j, ¬ (a = 2 ∧ 2 ≤ j ∧ j ≤ 5) → u2 (u2 (u2 (u2 f 2 2 0) 2 3 0) 2 4 1) 2 5 1 a j = f a j := fun a j z => by rw [u2_o (by omega), u2_o (by omega), u2_o (by omega), u2_o (by omega)]
  have t : ∀ a j, ¬ (a = 104 ∧ (58 ≤ j ∧ j ≤ 63 ∧ j ≠ 61)) → sumI φ a j = φ a j := fun a j z => by unfold sumI; rw [u2_o (by omega), u2_o (by omega), u2_o (by omega), u2_o (by omega), u2_o (by omega)]
  have hS : LSR b (u2 (u2 (u2 (u2 f 2 2 0) 2 3 0) 2 4 1) 2 5 1) (sumI φ) := by
    have t58 : sumI φ 104 58 = 0 := by unfold sumI; rw [u2_o (by omega), u2_o (by omega), u2_o (by omega), u2_o (by omega), u2_s]
    refine ⟨hN.cg (fo _ _ (by omega)) (fun j => fo _ _ (by omega)) (fun j => fo _ _ (by omega)) (fun j => fo _ _ (by omega)) (t _ _ (by omega)) (funext fun j => t _ _ (by omega)) (funext fun j => t _ _ (by omega)), ⟨?_, fun i hi => by omega⟩, ?_, ?_, ?_, ?_⟩
    · rw [t58, u2_o (by omega), u2_o (by omega), u2_o (by omega), u2_s]
    · unfold sumI; rw [u2_o (by omega), u2_o (by omega), u2_s, u2_o (by omega), u2_o (by omega), u2_s]
    · unfold sumI; rw [u2_o (by omega), u2_s, u2_o (by omega), u2_s]
    · unfold sumI; rw [u2_s, u2_s]
    · rw [fo _ _ (by omega), t _ _ (by omega)]; exact h8
  have hp1 : PRE (u2 (u2 (u2 (u2 f 2 2 0) 2 3 0) 2 4 1) 2 5 1) (sumI φ) := hp.cg (fun j => fo _ _ (by omega)) (fun j => fo _ _ (by omega)) (funext fun j => t _ _ (by omega)) (fun k z1 z2 => t _ _ (by omega)) ⟨fo _ _ (by omega), fo _ _ (by omega)⟩ ⟨t _ _ (by omega), t _ _ (by omega)⟩
  have hfr : SFr b f (u2 (u2 (u2 (u2 f 2 2 0) 2 3 0) 2 4 1) 2 5 1) := (((SFr.rf.up (Or.inl rfl)).up (Or.inl rfl)).up (Or.inl rfl)).up (Or.inl rfl)
  refine Ct.ofV (by decide) rfl (Nat.le_of_ble_eq_true rfl) ?_
  refine V_al0n dX2_readExpression_0 ?_
  refine V_iconst dX2_readExpression_1 ?_
  refine V_putI kk2 (by decide) fl_X2_17 rfl dX2_readExpression_2 ?_
  refine V_al0n dX2_readExpression_5 ?_
  refine V_iconst dX2_readExpression_6 ?_
  refine V_putI kk2 (by decide) fl_X2_21 rfl dX2_readExpression_7 ?_
  refine V_al0n dX2_readExpression_10 ?_
  refine V_iconst dX2_readExpression_11 ?_
  refine V_putZ kk2 (by decide) fl_X2_24 rfl (by first | exact Or.inl rfl | exact Or.inr rfl | (unfold bz; split <;> simp)) dX2_readExpression_12 ?_
  refine V_al0n dX2_readExpression_15 ?_
  refine V_iconst dX2_readExpression_16 ?_
  refine V_putZ kk2 (by decide) fl_X2_28 rfl (by first | exact Or.inl rfl | exact Or.inr rfl | (unfold bz; split <;> simp)) dX2_readExpression_17 ?_
  refine V_iconst dX2_readExpression_20 ?_
  refine V_is2n dX2_readExpression_21 (by decide) rfl ?_
  exact w_rex22 hρ hb (R := sumF φ) (fun f' φ' h1 h2 h3 => by rw [h1]; exact ⟨rfl, rfl, h3, (fun q => by (cases q)), fun _ => h2, rfl⟩) (fun f' φ' h1 h2 h3 h4 => by rw [h1]; exact ⟨rfl, rfl, h4, fun _ => ⟨h2, h3⟩, (fun q => by (cases q)), rfl⟩) (mu φ + 1) 0 _ (sumI φ) hp1 hS hsi (by rw [hsm]; omega) (by rw [hsm]; omega) hfr rfl
theorem c_phas {f : IT} (hρ : Fx ρ) (hb : b = 5 ∨ b = 30) {w : Nat} (hw : w < 8) {x y : Int} (h20 : f (b + 20) w = x) (h21 : f (b + 21) w = y) (rx : ri x) (ry : ri y) : C_X1_has [.ref (b + 17), .int (iz (w : Int))] ρ f g (fun r ρ' f' g' => r = some (.int (iz (bz (decide (x < y))))) ∧ ρ' = ρ ∧ f' = f ∧ g' = g) := by
  refine Ct.ofV (by decide) rfl (Nat.le_of_ble_eq_true rfl) ?_
  by_cases c : x < y
  · rw [decide_eq_true c]
    refine V_il1n dX1_has_0 ?_
    refine V_if_lt (tgt := 29) dX1_has_1 rfl (by first | assumption | (unfold ri at *; omega)) (fun b1 => ?_) (fun b1 => ?_)
    · exfalso; omega
    · refine V_il1n dX1_has_4 ?_
      refine V_bipush dX1_has_5 rfl ?_
      refine V_icmp_ge (tgt := 29) dX1_has_7 rfl (by first | assumption | (unfold ri at *; omega)) (by first | assumption | (unfold ri at *; omega)) (fun b7 => ?_) (fun b7 => ?_)
      · exfalso; omega
      · refine V_al0n dX1_has_10 ?_
        refine V_getR (kb_17 hb) (kl_17 hb) fl_X1_25 (fb_17_4 hρ hb) dX1_has_11 ?_
        refine V_il1n dX1_has_14 ?_
        refine V_iald (k := w) (kb_21 hb) (kl_21 hb) (by first | rfl | omega) (by omega) (by first | decide | assumption | omega) h21 dX1_has_15 ?_
        refine V_al0n dX1_has_16 ?_
        refine V_getR (kb_17 hb) (kl_17 hb) fl_X1_22 (fb_17_3 hρ hb) dX1_has_17 ?_
        refine V_il1n dX1_has_20 ?_
        refine V_iald (k := w) (kb_20 hb) (kl_20 hb) (by first | rfl | omega) (by omega) (by first | decide | assumption | omega) h20 dX1_has_21 ?_
        refine V_icmp_le (tgt := 29) dX1_has_22 rfl ry rx (fun b22 => ?_) (fun b22 => ?_)
        · exfalso; omega
        · refine V_iconst dX1_has_25 ?_
          refine V_goto (tgt := 30) dX1_has_26 rfl ?_
          exact V_zreturn rfl (by first | exact Or.inl rfl | exact Or.inr rfl | (unfold bz; split <;> simp)) ⟨rfl, rfl, rfl, rfl⟩ dX1_has_30
  · rw [decide_eq_false c]
    refine V_il1n dX1_has_0 ?_
    refine V_if_lt (tgt := 29) dX1_has_1 rfl (by first | assumption | (unfold ri at *; omega)) (fun b1 => ?_) (fun b1 => ?_)
    · exfalso; omega
    · refine V_il1n dX1_has_4 ?_
      refine V_bipush dX1_has_5 rfl ?_
      refine V_icmp_ge (tgt := 29) dX1_has_7 rfl (by first | assumption | (unfold ri at *; omega)) (by first | assumption | (unfold ri at *; omega)) (fun b7 => ?_) (fun b7 => ?_)
      · exfalso; omega
      · refine V_al0n dX1_has_10 ?_
        refine V_getR (kb_17 hb) (kl_17 hb) fl_X1_25 (fb_17_4 hρ hb) dX1_has_11 ?_
        refine V_il1n dX1_has_14 ?_
        refine V_iald (k := w) (kb_21 hb) (kl_21 hb) (by first | rfl | omega) (by omega) (by first | decide | assumption | omega) h21 dX1_has_15 ?_
        refine V_al0n dX1_has_16 ?_
        refine V_getR (kb_17 hb) (kl_17 hb) fl_X1_22 (fb_17_3 hρ hb) dX1_has_17 ?_
        refine V_il1n dX1_has_20 ?_
        refine V_iald (k := w) (kb_20 hb) (kl_20 hb) (by first | rfl | omega) (by omega) (by first | decide | assumption | omega) h20 dX1_has_21 ?_
        refine V_icmp_le (tgt := 29) dX1_has_22 rfl ry rx (fun b22 => ?_) (fun b22 => ?_)
        · refine V_iconst dX1_has_29 ?_
          exact V_zreturn rfl (by first | exact Or.inl rfl | exact Or.inr rfl | (unfold bz; split <;> simp)) ⟨rfl, rfl, rfl, rfl⟩ dX1_has_30
        · exfalso; omega
theorem CUR.lawk {f φ : IT} (h : CUR f φ) (hK : PK φ) : (¬ (φ 104 8 ≠ 1 ∨ φ 104 9 < 10 ∨ 17 < φ 104 9) → f 4 6 = φ 104 9 - 10) ∧ ((φ 104 8 ≠ 1 ∨ φ 104 9 < 10 ∨ 17 < φ 104 9) → f 4 6 < 0 ∨ 7 < f 4 6) := by
  obtain ⟨v0, v1, v2, v3, v4, v5, v6⟩ := h.2.2
  obtain ⟨-, k8, k9, k1, -, k5⟩ := hK
  unfold ckK cwK at v1
  rcases (show φ 104 8 = 0 ∨ φ 104 8 = 1 ∨ φ 104 8 = 2 ∨ φ 104 8 = 3 ∨ φ 104 8 = 4 ∨ φ 104 8 = 5 ∨ φ 104 8 = 6 by omega) with e | e | e | e | e | e | e
  · have := v0 e; omega
  · have hz := (v1 e).2.1; have := k1 e; (repeat' split at hz) <;> omega
  · have := v2 e; omega
  · have := v3 e; omega
  · have := v4 e; omega
  · have := v5 e; omega
  · have := v6 e; omega
theorem mu_701 {φ : IT} (h : PK φ) : mu φ ≤ 701 := by
  obtain ⟨⟨h6, h7, -, -⟩, -⟩ := h
  unfold mu
  split <;> omega
end CEXPR

