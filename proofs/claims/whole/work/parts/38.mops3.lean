/-! images, counts, what is told -/
def keepF (f : IT) : IT := u2 (u2 (cpR (u2 (u2 (u2 (u2 f 104 97 1) 104 98 (f 104 78)) 104 99 (f 104 79)) 104 100 (f 104 80)) 147 137 0 7) 104 103 (f 104 67)) 104 104 (f 104 68)
def keepG (g : JT) : JT := u2 g 104 102 (g 104 69)
theorem w_keep36 {Q : QT} {ρ : RT} {f : IT} {g : JT} (hρ : Fx ρ) (h78 : f 104 78 = 0 ∨ f 104 78 = 1) (h68 : f 104 68 = 0 ∨ f 104 68 = 1) (hX : Q (some (.int (iz (if f 104 78 = 1 then f 137 0 else -2)))) ρ (u2 (u2 (cpR f 147 137 0 7) 104 103 (f 104 67)) 104 104 (f 104 68)) (u2 g 104 102 (g 104 69))) (i : Nat) (hi : i ≤ 7) : V_X12_keep Q 36 [.ref 104, .int (iz (i : Int))] [] ρ (cpR f 147 137 0 i) g := by
  have h8 : ∀ j k, cpR f 147 137 0 j 104 k = f 104 k := fun j k => cpR_o (by omega)
  by_cases e : i = 7
  · subst e
    refine V_il1n dX12_keep_36 ?_
    refine V_bipush dX12_keep_37 rfl ?_
    refine V_icmp_ge (tgt := 60) dX12_keep_39 rfl (by first | assumption | (unfold ri at *; omega)) (by first | assumption | (unfold ri at *; omega)) (fun b39 => ?_) (fun b39 => ?_)
    · refine V_al0n dX12_keep_60 ?_
      refine V_al0n dX12_keep_61 ?_
      refine V_getJ kk104 (by decide) fl_X12_288 rfl dX12_keep_62 ?_
      refine V_putJ kk104 (by decide) fl_X12_619 rfl dX12_keep_65 ?_
      refine V_al0n dX12_keep_68 ?_
      refine V_al0n dX12_keep_69 ?_
      refine V_getI kk104 (by decide) fl_X12_282 (h8 7 67) dX12_keep_70 ?_
      refine V_putI kk104 (by decide) fl_X12_622 rfl dX12_keep_73 ?_
      refine V_al0n dX12_keep_76 ?_
      refine V_al0n dX12_keep_77 ?_
      refine V_getZ kk104 (by decide) fl_X12_285 (u2_n (by decide) (h8 7 68)) dX12_keep_78 ?_
      refine V_putZ kk104 (by decide) fl_X12_625 rfl h68 dX12_keep_81 ?_
      refine V_al0n dX12_keep_84 ?_
      refine V_getZ kk104 (by decide) fl_X12_292 (u2_n (by decide) (u2_n (by decide) (h8 7 78))) dX12_keep_85 ?_
      refine V_if_eq (tgt := 100) dX12_keep_88 rfl (by first | assumption | (unfold ri at *; omega)) (fun b88 => ?_) (fun b88 => ?_)
      · refine V_bipush dX12_keep_100 rfl ?_
        exact V_ireturn rfl (by first | (rw [if_pos (by omega)] at hX; exact hX) | (rw [if_neg (by omega)] at hX; exact hX)) dX12_keep_102
      · refine V_al0n dX12_keep_91 ?_
        refine V_getR kk104 (by decide) fl_X12_112 (fx_104_81 hρ) dX12_keep_92 ?_
        refine V_iconst dX12_keep_95 ?_
        refine V_iald (k := 0) kk137 (by decide) (by first | rfl | omega) (by omega) (by first | decide | assumption | omega) (u2_n (by omega) (u2_n (by omega) (cpR_b (by omega)))) dX12_keep_96 ?_
        refine V_goto (tgt := 102) dX12_keep_97 rfl ?_
        exact V_ireturn rfl (by first | (rw [if_pos (by omega)] at hX; exact hX) | (rw [if_neg (by omega)] at hX; exact hX)) dX12_keep_102
    · exfalso; omega
  · refine V_il1n dX12_keep_36 ?_
    refine V_bipush dX12_keep_37 rfl ?_
    refine V_icmp_ge (tgt := 60) dX12_keep_39 rfl (by first | assumption | (unfold ri at *; omega)) (by first | assumption | (unfold ri at *; omega)) (fun b39 => ?_) (fun b39 => ?_)
    · exfalso; omega
    · refine V_al0n dX12_keep_42 ?_
      refine V_getR kk104 (by decide) fl_X12_145 (fx_104_101 hρ) dX12_keep_43 ?_
      refine V_il1n dX12_keep_46 ?_
      refine V_al0n dX12_keep_47 ?_
      refine V_getR kk104 (by decide) fl_X12_112 (fx_104_81 hρ) dX12_keep_48 ?_
      refine V_il1n dX12_keep_51 ?_
      refine V_iald (k := i) kk137 (by decide) (by first | rfl | omega) (by omega) (by first | decide | assumption | omega) (cpR_b (by omega)) dX12_keep_52 ?_
      refine V_iast (k := i) kk147 (by decide) (by first | rfl | omega) (by omega) (by first | decide | assumption | omega) dX12_keep_53 ?_
      refine V_inc1 dX12_keep_54 (by decide) rfl ?_
      refine V_goto (tgt := 36) dX12_keep_57 rfl ?_
      have ec := cpR_s (f := f) (a := 147) (b := 137) (o := 0) (i := i) (by omega)
      rw [Nat.zero_add] at ec
      rw [ec]
      exact w_keep36 hρ h78 h68 hX (i + 1) (by omega)
termination_by 7 - i
theorem c_mkeep {T : TT} {ρ : RT} {f : IT} {g : JT} (hρ : Fx ρ) (hR : RcK T f) (h68 : f 104 68 = 0 ∨ f 104 68 = 1) :
    C_X12_keep [.ref 104] ρ f g (fun r ρ' f' g' => r = some (.int (iz (if f 104 78 = 1 then f 137 0 else -2))) ∧ ρ' = ρ ∧ KM (keepF f) f' ∧ KM (keepG g) g') := by
  have k0 : KM f (u2 f 104 2 0) := KM.u2 rfl KM.rf
  have hz := hR.1
  refine Ct.ofV (by decide) rfl (Nat.le_of_ble_eq_true rfl) ?_
  refine V_al0n dX12_keep_0 ?_
  refine V_iconst dX12_keep_1 ?_
  refine V_putI kk104 (by decide) fl_X12_154 rfl dX12_keep_2 ?_
  refine V_al0n dX12_keep_5 ?_
  refine V_iconst dX12_keep_6 ?_
  refine V_putZ kk104 (by decide) fl_X12_301 rfl (by first | exact Or.inl rfl | exact Or.inr rfl | (unfold bz; split <;> simp)) dX12_keep_7 ?_
  refine V_al0n dX12_keep_10 ?_
  refine V_al0n dX12_keep_11 ?_
  refine V_getZ kk104 (by decide) fl_X12_292 (u2_n (by decide) (u2_n (by decide) rfl)) dX12_keep_12 ?_
  refine V_putZ kk104 (by decide) fl_X12_610 rfl hz dX12_keep_15 ?_
  refine V_al0n dX12_keep_18 ?_
  refine V_al0n dX12_keep_19 ?_
  refine V_getI kk104 (by decide) fl_X12_493 (u2_n (by decide) (u2_n (by decide) (u2_n (by decide) rfl))) dX12_keep_20 ?_
  refine V_putI kk104 (by decide) fl_X12_613 rfl dX12_keep_23 ?_
  refine V_al0n dX12_keep_26 ?_
  refine V_al0n dX12_keep_27 ?_
  refine V_getI kk104 (by decide) fl_X12_496 (u2_n (by decide) (u2_n (by decide) (u2_n (by decide) (u2_n (by decide) rfl)))) dX12_keep_28 ?_
  refine V_putI kk104 (by decide) fl_X12_616 rfl dX12_keep_31 ?_
  refine V_iconst dX12_keep_34 ?_
  refine V_is1n dX12_keep_35 (by decide) rfl ?_
  have hx := w_keep36 (Q := fun r ρ' f' g' => r = some (.int (iz (if f 104 78 = 1 then f 137 0 else -2))) ∧ ρ' = ρ ∧ KM (keepF f) f' ∧ KM (keepG g) g') (f := u2 (u2 (u2 (u2 (u2 f 104 2 0) 104 97 1) 104 98 (f 104 78)) 104 99 (f 104 79)) 104 100 (f 104 80)) (g := g) hρ (by simp [u2]; exact hz) (by simp [u2]; exact h68) ⟨by simp [u2], rfl, by unfold keepF; simp only [show ∀ x y z w v : Int, u2 (u2 (u2 (u2 (u2 f 104 2 v) 104 97 x) 104 98 y) 104 99 z) 104 100 w 104 67 = f 104 67 from fun _ _ _ _ _ => by simp [u2], show ∀ x y z w v : Int, u2 (u2 (u2 (u2 (u2 f 104 2 v) 104 97 x) 104 98 y) 104 99 z) 104 100 w 104 68 = f 104 68 from fun _ _ _ _ _ => by simp [u2]]; exact km_cg (km_cg (km_cpR (fun k => rfl) (km_cg (km_cg (km_cg (km_cg k0)))))), KM.rf⟩ 0 (by omega)
  rw [cpR_0] at hx
  exact hx
def backF (f : IT) : IT := if f 104 97 = 1 then u2 (u2 (u2 (cpR (u2 (u2 (u2 f 104 78 (f 104 98)) 104 79 (f 104 99)) 104 80 (f 104 100)) 137 147 0 7) 104 67 (f 104 103)) 104 68 (f 104 104)) 104 82 0 else f
def backG (f : IT) (g : JT) : JT := if f 104 97 = 1 then u2 g 104 69 (g 104 102) else g
def backA (f : IT) : Int := if f 104 97 = 1 then (if f 104 98 = 1 then f 147 0 else -2) else -1
theorem w_back40 {Q : QT} {ρ : RT} {f : IT} {g : JT} (hρ : Fx ρ) (h78 : f 104 78 = 0 ∨ f 104 78 = 1) (h68 : f 104 104 = 0 ∨ f 104 104 = 1) (hX : Q (some (.int (iz (if f 104 78 = 1 then f 147 0 else -2)))) ρ (u2 (u2 (u2 (cpR f 137 147 0 7) 104 67 (f 104 103)) 104 68 (f 104 104)) 104 82 0) (u2 g 104 69 (g 104 102))) (i : Nat) (hi : i ≤ 7) : V_X12_back Q 40 [.ref 104, .int (iz (i : Int))] [] ρ (cpR f 137 147 0 i) g := by
  have h8 : ∀ j k, cpR f 137 147 0 j 104 k = f 104 k := fun j k => cpR_o (by omega)
  by_cases e : i = 7
  · subst e
    refine V_il1n dX12_back_40 ?_
    refine V_bipush dX12_back_41 rfl ?_
    refine V_icmp_ge (tgt := 64) dX12_back_43 rfl (by first | assumption | (unfold ri at *; omega)) (by first | assumption | (unfold ri at *; omega)) (fun b43 => ?_) (fun b43 => ?_)
    · refine V_al0n dX12_back_64 ?_
      refine V_al0n dX12_back_65 ?_
      refine V_getJ kk104 (by decide) fl_X12_619 rfl dX12_back_66 ?_
      refine V_putJ kk104 (by decide) fl_X12_288 rfl dX12_back_69 ?_
      refine V_al0n dX12_back_72 ?_
      refine V_al0n dX12_back_73 ?_
      refine V_getI kk104 (by decide) fl_X12_622 (h8 7 103) dX12_back_74 ?_
      refine V_putI kk104 (by decide) fl_X12_282 rfl dX12_back_77 ?_
      refine V_al0n dX12_back_80 ?_
      refine V_al0n dX12_back_81 ?_
      refine V_getZ kk104 (by decide) fl_X12_625 (u2_n (by decide) (h8 7 104)) dX12_back_82 ?_
      refine V_putZ kk104 (by decide) fl_X12_285 rfl h68 dX12_back_85 ?_
      refine V_al0n dX12_back_88 ?_
      refine V_iconst dX12_back_89 ?_
      refine V_putI kk104 (by decide) fl_X12_295 rfl dX12_back_90 ?_
      refine V_al0n dX12_back_93 ?_
      refine V_getZ kk104 (by decide) fl_X12_292 (u2_n (by decide) (u2_n (by decide) (u2_n (by decide) (h8 7 78)))) dX12_back_94 ?_
      refine V_if_eq (tgt := 109) dX12_back_97 rfl (by first | assumption | (unfold ri at *; omega)) (fun b97 => ?_) (fun b97 => ?_)
      · refine V_bipush dX12_back_109 rfl ?_
        exact V_ireturn rfl (by first | (rw [if_pos (by omega)] at hX; exact hX) | (rw [if_neg (by omega)] at hX; exact hX)) dX12_back_111
      · refine V_al0n dX12_back_100 ?_
        refine V_getR kk104 (by decide) fl_X12_112 (fx_104_81 hρ) dX12_back_101 ?_
        refine V_iconst dX12_back_104 ?_
        refine V_iald (k := 0) kk137 (by decide) (by first | rfl | omega) (by omega) (by first | decide | assumption | omega) (u2_n (by omega) (u2_n (by omega) (u2_n (by omega) (show cpR f 137 147 0 7 137 0 = f 147 0 by simp [cpR])))) dX12_back_105 ?_
        refine V_goto (tgt := 111) dX12_back_106 rfl ?_
        exact V_ireturn rfl (by first | (rw [if_pos (by omega)] at hX; exact hX) | (rw [if_neg (by omega)] at hX; exact hX)) dX12_back_111
    · exfalso; omega
  · refine V_il1n dX12_back_40 ?_
    refine V_bipush dX12_back_41 rfl ?_
    refine V_icmp_ge (tgt := 64) dX12_back_43 rfl (by first | assumption | (unfold ri at *; omega)) (by first | assumption | (unfold ri at *; omega)) (fun b43 => ?_) (fun b43 => ?_)
    · exfalso; omega
    · refine V_al0n dX12_back_46 ?_
      refine V_getR kk104 (by decide) fl_X12_112 (fx_104_81 hρ) dX12_back_47 ?_
      refine V_il1n dX12_back_50 ?_
      refine V_al0n dX12_back_51 ?_
      refine V_getR kk104 (by decide) fl_X12_145 (fx_104_101 hρ) dX12_back_52 ?_
      refine V_il1n dX12_back_55 ?_
      refine V_iald (k := i) kk147 (by decide) (by first | rfl | omega) (by omega) (by first | decide | assumption | omega) (cpR_b (by omega)) dX12_back_56 ?_
      refine V_iast (k := i) kk137 (by decide) (by first | rfl | omega) (by omega) (by first | decide | assumption | omega) dX12_back_57 ?_
      refine V_inc1 dX12_back_58 (by decide) rfl ?_
      refine V_goto (tgt := 40) dX12_back_61 rfl ?_
      have ec := cpR_s (f := f) (a := 137) (b := 147) (o := 0) (i := i) (by omega)
      rw [Nat.zero_add] at ec
      rw [ec]
      exact w_back40 hρ h78 h68 hX (i + 1) (by omega)
termination_by 7 - i
theorem c_mback {ρ : RT} {f : IT} {g : JT} (hρ : Fx ρ) (h97 : f 104 97 = 0 ∨ f 104 97 = 1) (h98 : f 104 98 = 0 ∨ f 104 98 = 1) (h104 : f 104 104 = 0 ∨ f 104 104 = 1) :
    C_X12_back [.ref 104] ρ f g (fun r ρ' f' g' => r = some (.int (iz (backA f))) ∧ ρ' = ρ ∧ KM (backF f) f' ∧ KM (backG f g) g') := by
  have k0 : KM f (u2 f 104 2 0) := KM.u2 rfl KM.rf
  refine Ct.ofV (by decide) rfl (Nat.le_of_ble_eq_true rfl) ?_
  refine V_al0n dX12_back_0 ?_
  refine V_iconst dX12_back_1 ?_
  refine V_putI kk104 (by decide) fl_X12_154 rfl dX12_back_2 ?_
  refine V_al0n dX12_back_5 ?_
  refine V_getZ kk104 (by decide) fl_X12_301 (u2_n (by decide) rfl) dX12_back_6 ?_
  refine V_if_ne (tgt := 14) dX12_back_9 rfl (by first | assumption | (unfold ri at *; omega)) (fun b9 => ?_) (fun b9 => ?_)
  · have e9 : f 104 97 = 1 := by omega
    refine V_al0n dX12_back_14 ?_
    refine V_al0n dX12_back_15 ?_
    refine V_getZ kk104 (by decide) fl_X12_610 (u2_n (by decide) rfl) dX12_back_16 ?_
    refine V_putZ kk104 (by decide) fl_X12_292 rfl h98 dX12_back_19 ?_
    refine V_al0n dX12_back_22 ?_
    refine V_al0n dX12_back_23 ?_
    refine V_getI kk104 (by decide) fl_X12_613 (u2_n (by decide) (u2_n (by decide) rfl)) dX12_back_24 ?_
    refine V_putI kk104 (by decide) fl_X12_493 rfl dX12_back_27 ?_
    refine V_al0n dX12_back_30 ?_
    refine V_al0n dX12_back_31 ?_
    refine V_getI kk104 (by decide) fl_X12_616 (u2_n (by decide) (u2_n (by decide) (u2_n (by decide) rfl))) dX12_back_32 ?_
    refine V_putI kk104 (by decide) fl_X12_496 rfl dX12_back_35 ?_
    refine V_iconst dX12_back_38 ?_
    refine V_is1n dX12_back_39 (by decide) rfl ?_
    have hx := w_back40 (Q := fun r ρ' f' g' => r = some (.int (iz (backA f))) ∧ ρ' = ρ ∧ KM (backF f) f' ∧ KM (backG f g) g') (f := u2 (u2 (u2 (u2 f 104 2 0) 104 78 (f 104 98)) 104 79 (f 104 99)) 104 80 (f 104 100)) (g := g) hρ (by simp [u2]; exact h98) (by simp [u2]; exact h104) ⟨by unfold backA; rw [if_pos e9]; simp [u2], rfl, by unfold backF; rw [if_pos e9]; simp only [show ∀ y z w v : Int, u2 (u2 (u2 (u2 f 104 2 v) 104 78 y) 104 79 z) 104 80 w 104 103 = f 104 103 from fun _ _ _ _ => by simp [u2], show ∀ y z w v : Int, u2 (u2 (u2 (u2 f 104 2 v) 104 78 y) 104 79 z) 104 80 w 104 104 = f 104 104 from fun _ _ _ _ => by simp [u2]]; exact km_cg (km_cg (km_cg (km_cpR (fun k => rfl) (km_cg (km_cg (km_cg k0)))))), by unfold backG; rw [if_pos e9]; exact KM.rf⟩ 0 (by omega)
    rw [cpR_0] at hx
    exact hx
  · have e9 : ¬ f 104 97 = 1 := by omega
    refine V_iconst dX12_back_12 ?_
    exact V_ireturn rfl ⟨by unfold backA; rw [if_neg e9], rfl, by unfold backF; rw [if_neg e9]; exact k0, by unfold backG; rw [if_neg e9]; exact KM.rf⟩ dX12_back_13
def aCount (T : TT) (w : Int) (f : IT) : Int := if w = 0 then T 104 12 else if w = 1 then T 104 13 else if w = 2 then T 104 14 else if w = 3 then T 104 15 else if w = 4 then T 104 17 else if w = 5 then allS T else if w = 6 then f 104 90 else if w = 7 then (if f 104 91 < 0 then f 104 90 else f 104 91) else if w = 8 then f 104 82 else if w = 9 then f 104 67 else if w = 10 then T 104 16 else -1
theorem c_mcount {T : TT} {ρ : RT} {f : IT} {g : JT} (hρ : Fx ρ) (hT : MT T f) (hk : TOK T) {w : Int} (rw_ : ri w) (r91 : ri (f 104 91)) :
    C_X12_count [.ref 104, .int (iz w)] ρ f g (fun r ρ' f' g' => r = some (.int (iz (aCount T w f))) ∧ ρ' = ρ ∧ KM f f' ∧ KM g g') := by
  have k0 : KM f (u2 f 104 2 0) := KM.u2 rfl KM.rf
  have hT1 : MT T (u2 f 104 2 0) := hT.km k0
  have h6 := hk.la
  refine Ct.ofV (by decide) rfl (Nat.le_of_ble_eq_true rfl) ?_
  refine V_al0n dX12_count_0 ?_
  refine V_iconst dX12_count_1 ?_
  refine V_putI kk104 (by decide) fl_X12_154 rfl dX12_count_2 ?_
  refine V_il1n dX12_count_5 ?_
  rcases (show w = 0 ∨ w = 1 ∨ w = 2 ∨ w = 3 ∨ w = 4 ∨ w = 5 ∨ w = 6 ∨ w = 7 ∨ w = 8 ∨ w = 9 ∨ w = 10 ∨ (w < 0 ∨ 10 < w) by omega) with ew | ew | ew | ew | ew | ew | ew | ew | ew | ew | ew | ew
  · refine V_tabIn (tgt := 64) (i := 0) dX12_count_6 (by first | rfl | omega) (by decide) (by first | decide | assumption | (unfold ri at *; omega)) rfl rfl ?_
    refine V_al0n dX12_count_64 ?_
    refine V_getI kk104 (by decide) fl_X12_250 (u2_n (by decide) (hT 104 12 rfl)) dX12_count_65 ?_
    exact V_ireturn rfl ⟨by unfold aCount; first | (rw [ew]; rfl) | (rw [ew]; simp; done) | (repeat rw [if_neg (by omega)]), rfl, k0, KM.rf⟩ dX12_count_68
  · refine V_tabIn (tgt := 69) (i := 1) dX12_count_6 (by first | rfl | omega) (by decide) (by first | decide | assumption | (unfold ri at *; omega)) rfl rfl ?_
    refine V_al0n dX12_count_69 ?_
    refine V_getI kk104 (by decide) fl_X12_253 (u2_n (by decide) (hT 104 13 rfl)) dX12_count_70 ?_
    exact V_ireturn rfl ⟨by unfold aCount; first | (rw [ew]; rfl) | (rw [ew]; simp; done) | (repeat rw [if_neg (by omega)]), rfl, k0, KM.rf⟩ dX12_count_73
  · refine V_tabIn (tgt := 74) (i := 2) dX12_count_6 (by first | rfl | omega) (by decide) (by first | decide | assumption | (unfold ri at *; omega)) rfl rfl ?_
    refine V_al0n dX12_count_74 ?_
    refine V_getI kk104 (by decide) fl_X12_256 (u2_n (by decide) (hT 104 14 rfl)) dX12_count_75 ?_
    exact V_ireturn rfl ⟨by unfold aCount; first | (rw [ew]; rfl) | (rw [ew]; simp; done) | (repeat rw [if_neg (by omega)]), rfl, k0, KM.rf⟩ dX12_count_78
  · refine V_tabIn (tgt := 79) (i := 3) dX12_count_6 (by first | rfl | omega) (by decide) (by first | decide | assumption | (unfold ri at *; omega)) rfl rfl ?_
    refine V_al0n dX12_count_79 ?_
    refine V_getI kk104 (by decide) fl_X12_259 (u2_n (by decide) (hT 104 15 rfl)) dX12_count_80 ?_
    exact V_ireturn rfl ⟨by unfold aCount; first | (rw [ew]; rfl) | (rw [ew]; simp; done) | (repeat rw [if_neg (by omega)]), rfl, k0, KM.rf⟩ dX12_count_83
  · refine V_tabIn (tgt := 84) (i := 4) dX12_count_6 (by first | rfl | omega) (by decide) (by first | decide | assumption | (unfold ri at *; omega)) rfl rfl ?_
    refine V_al0n dX12_count_84 ?_
    refine V_getI kk104 (by decide) fl_X12_265 (u2_n (by decide) (hT 104 17 rfl)) dX12_count_85 ?_
    exact V_ireturn rfl ⟨by unfold aCount; first | (rw [ew]; rfl) | (rw [ew]; simp; done) | (repeat rw [if_neg (by omega)]), rfl, k0, KM.rf⟩ dX12_count_88
  · refine V_tabIn (tgt := 89) (i := 5) dX12_count_6 (by first | rfl | omega) (by decide) (by first | decide | assumption | (unfold ri at *; omega)) rfl rfl ?_
    refine V_al0n dX12_count_89 ?_
    refine V_callV (as := []) ml_X12_476 im_X12_allSteps se_X12_allSteps kk104 (by decide) (by decide) dX12_count_90 rfl rfl (by decide) (by decide) (Nat.le_of_ble_eq_true rfl) (by decide) (by decide) rfl (c_allSteps hρ h6.2 ((hT1 104 12 rfl).trans h6.1) (s := T 108) (fun k hk => hT1.at rfl (by omega : k < 6))) ?_
    refine pq4 ?_
    exact V_ireturn rfl ⟨by unfold aCount; first | (rw [ew]; rfl) | (rw [ew]; simp; done) | (repeat rw [if_neg (by omega)]), rfl, k0, KM.rf⟩ dX12_count_93
  · refine V_tabIn (tgt := 94) (i := 6) dX12_count_6 (by first | rfl | omega) (by decide) (by first | decide | assumption | (unfold ri at *; omega)) rfl rfl ?_
    refine V_al0n dX12_count_94 ?_
    refine V_getI kk104 (by decide) fl_X12_298 (u2_n (by decide) rfl) dX12_count_95 ?_
    exact V_ireturn rfl ⟨by unfold aCount; first | (rw [ew]; rfl) | (rw [ew]; simp; done) | (repeat rw [if_neg (by omega)]), rfl, k0, KM.rf⟩ dX12_count_98
  · refine V_tabIn (tgt := 99) (i := 7) dX12_count_6 (by first | rfl | omega) (by decide) (by first | decide | assumption | (unfold ri at *; omega)) rfl rfl ?_
    refine V_al0n dX12_count_99 ?_
    refine V_callV (as := []) ml_X12_561 im_X12_knownBy se_X12_knownBy kk104 (by decide) (by decide) dX12_count_100 rfl rfl (by decide) (by decide) (Nat.le_of_ble_eq_true rfl) (by decide) (by decide) rfl (c_knownBy (a := f 104 91) (b := f 104 90) (u2_n (by omega) rfl) (u2_n (by omega) rfl) r91) ?_
    refine pq4 ?_
    exact V_ireturn rfl ⟨by unfold aCount; first | (rw [ew]; rfl) | (rw [ew]; simp; done) | (repeat rw [if_neg (by omega)]), rfl, k0, KM.rf⟩ dX12_count_103
  · refine V_tabIn (tgt := 104) (i := 8) dX12_count_6 (by first | rfl | omega) (by decide) (by first | decide | assumption | (unfold ri at *; omega)) rfl rfl ?_
    refine V_al0n dX12_count_104 ?_
    refine V_getI kk104 (by decide) fl_X12_295 (u2_n (by decide) rfl) dX12_count_105 ?_
    exact V_ireturn rfl ⟨by unfold aCount; first | (rw [ew]; rfl) | (rw [ew]; simp; done) | (repeat rw [if_neg (by omega)]), rfl, k0, KM.rf⟩ dX12_count_108
  · refine V_tabIn (tgt := 109) (i := 9) dX12_count_6 (by first | rfl | omega) (by decide) (by first | decide | assumption | (unfold ri at *; omega)) rfl rfl ?_
    refine V_al0n dX12_count_109 ?_
    refine V_getI kk104 (by decide) fl_X12_282 (u2_n (by decide) rfl) dX12_count_110 ?_
    exact V_ireturn rfl ⟨by unfold aCount; first | (rw [ew]; rfl) | (rw [ew]; simp; done) | (repeat rw [if_neg (by omega)]), rfl, k0, KM.rf⟩ dX12_count_113
  · refine V_tabIn (tgt := 114) (i := 10) dX12_count_6 (by first | rfl | omega) (by decide) (by first | decide | assumption | (unfold ri at *; omega)) rfl rfl ?_
    refine V_al0n dX12_count_114 ?_
    refine V_getI kk104 (by decide) fl_X12_262 (u2_n (by decide) (hT 104 16 rfl)) dX12_count_115 ?_
    exact V_ireturn rfl ⟨by unfold aCount; first | (rw [ew]; rfl) | (rw [ew]; simp; done) | (repeat rw [if_neg (by omega)]), rfl, k0, KM.rf⟩ dX12_count_118
  · refine V_tabOut (tgt := 119) dX12_count_6 (by omega) (by first | assumption | (unfold ri at *; omega)) rfl ?_
    refine V_iconst dX12_count_119 ?_
    exact V_ireturn rfl ⟨by unfold aCount; first | (rw [ew]; rfl) | (rw [ew]; simp; done) | (repeat rw [if_neg (by omega)]), rfl, k0, KM.rf⟩ dX12_count_120
def aLook (T : TT) (ra : Bool) (k w : Int) : Int := if okL T k = true then (if w = 0 then T 108 k.toNat else if w = 1 then T 109 k.toNat else if w = 2 then T 110 k.toNat else if w = 3 then bz (dmp T ra k.toNat) else 0) else 0
def tLook (T : TT) (k w : Int) : Int := if okL T k = true then (if 0 ≤ w ∧ w ≤ 3 then 0 else 2) else 1
theorem c_mlook {T : TT} {ρ : RT} {f : IT} {g : JT} (hρ : Fx ρ) (hT : MT T f) (hk : TOK T) {ra : Bool} (hr : f 104 68 = bz ra) {k w : Int} (rk : ri k) (rw_ : ri w) :
    C_X12_look [.ref 104, .int (iz k), .int (iz w)] ρ f g (fun r ρ' f' g' => r = some (.int (iz (aLook T ra k w))) ∧ ρ' = ρ ∧ KM f f' ∧ KM g g' ∧ f' 104 2 = tLook T k w) := by
  have k0 : KM f (u2 f 104 2 0) := KM.u2 rfl KM.rf
  have hT1 : MT T (u2 f 104 2 0) := hT.km k0
  have h6 := hk.la
  refine Ct.ofV (by decide) rfl (Nat.le_of_ble_eq_true rfl) ?_
  refine V_al0n dX12_look_0 ?_
  refine V_iconst dX12_look_1 ?_
  refine V_putI kk104 (by decide) fl_X12_154 rfl dX12_look_2 ?_
  refine V_al0n dX12_look_5 ?_
  refine V_il1n dX12_look_6 ?_
  refine V_callV (as := [_]) ml_X12_450 im_X12_isLane se_X12_isLane kk104 (by decide) (by decide) dX12_look_7 rfl rfl (by decide) (by decide) (Nat.le_of_ble_eq_true rfl) (by decide) (by decide) rfl (c_isLane rk ((hT1 104 12 rfl).trans h6.1) (by unfold ri; omega)) ?_
  refine pq4 ?_
  refine V_bf (tgt := 19) dX12_look_10 rfl (fun b10 => ?_) (fun b10 => ?_)
  · have eo : okL T k = true := b10
    have c1 := b10
    simp only [decide_eq_true_eq] at c1
    obtain ⟨kN, rfl⟩ : ∃ n : Nat, k = n := ⟨k.toNat, by omega⟩
    have hla := hk.lane (k := kN) (by omega)
    refine V_il2n dX12_look_19 ?_
    rcases (show w = 0 ∨ w = 1 ∨ w = 2 ∨ w = 3 ∨ (w < 0 ∨ 3 < w) by omega) with ew | ew | ew | ew | ew
    · refine V_tabIn (tgt := 52) (i := 0) dX12_look_20 (by first | rfl | omega) (by decide) (by first | decide | assumption | (unfold ri at *; omega)) rfl rfl ?_
      refine V_al0n dX12_look_52 ?_
      refine V_getR kk104 (by decide) fl_X12_23 (fx_104_31 hρ) dX12_look_53 ?_
      refine V_il1n dX12_look_56 ?_
      refine V_iald (k := kN) kk108 (by decide) (by first | rfl | omega) (by omega) (by first | decide | assumption | omega) (u2_n (by omega) (hT.at rfl (by omega : kN < 6))) dX12_look_57 ?_
      exact V_ireturn rfl ⟨by unfold aLook; rw [eo, ew]; simp, rfl, k0, KM.rf, by unfold tLook; rw [eo, if_pos rfl, if_pos (by omega)]; exact u2_s⟩ dX12_look_58
    · refine V_tabIn (tgt := 59) (i := 1) dX12_look_20 (by first | rfl | omega) (by decide) (by first | decide | assumption | (unfold ri at *; omega)) rfl rfl ?_
      refine V_al0n dX12_look_59 ?_
      refine V_getR kk104 (by decide) fl_X12_26 (fx_104_32 hρ) dX12_look_60 ?_
      refine V_il1n dX12_look_63 ?_
      refine V_iald (k := kN) kk109 (by decide) (by first | rfl | omega) (by omega) (by first | decide | assumption | omega) (u2_n (by omega) (hT.at rfl (by omega : kN < 6))) dX12_look_64 ?_
      exact V_ireturn rfl ⟨by unfold aLook; rw [eo, ew]; simp, rfl, k0, KM.rf, by unfold tLook; rw [eo, if_pos rfl, if_pos (by omega)]; exact u2_s⟩ dX12_look_65
    · refine V_tabIn (tgt := 66) (i := 2) dX12_look_20 (by first | rfl | omega) (by decide) (by first | decide | assumption | (unfold ri at *; omega)) rfl rfl ?_
      refine V_al0n dX12_look_66 ?_
      refine V_getR kk104 (by decide) fl_X12_29 (fx_104_33 hρ) dX12_look_67 ?_
      refine V_il1n dX12_look_70 ?_
      refine V_zald (k := kN) kk110 (by decide) (by first | rfl | omega) (by omega) (by first | decide | assumption | omega) (u2_n (by omega) (hT.at rfl (by omega : kN < 6))) dX12_look_71 ?_
      refine V_if_eq (tgt := 79) dX12_look_72 rfl (by first | assumption | (unfold ri at *; omega)) (fun b72 => ?_) (fun b72 => ?_)
      · refine V_iconst dX12_look_79 ?_
        exact V_ireturn rfl ⟨by unfold aLook; rw [eo, ew]; simp; congr 1; omega, rfl, k0, KM.rf, by unfold tLook; rw [eo, if_pos rfl, if_pos (by omega)]; exact u2_s⟩ dX12_look_80
      · refine V_iconst dX12_look_75 ?_
        refine V_goto (tgt := 80) dX12_look_76 rfl ?_
        exact V_ireturn rfl ⟨by unfold aLook; rw [eo, ew]; simp; congr 1; omega, rfl, k0, KM.rf, by unfold tLook; rw [eo, if_pos rfl, if_pos (by omega)]; exact u2_s⟩ dX12_look_80
    · refine V_tabIn (tgt := 81) (i := 3) dX12_look_20 (by first | rfl | omega) (by decide) (by first | decide | assumption | (unfold ri at *; omega)) rfl rfl ?_
      refine V_al0n dX12_look_81 ?_
      refine V_il1n dX12_look_82 ?_
      refine V_callV (as := [_]) ml_X12_423 im_X12_isDamp se_X12_isDamp kk104 (by decide) (by decide) dX12_look_83 rfl rfl (by decide) (by decide) (Nat.le_of_ble_eq_true rfl) (by decide) (by decide) rfl (c_isDamp hρ hT1 hk (by omega : kN < nLa T) (u2_n (by omega) hr)) ?_
      refine pq4 ?_
      refine V_bt (tgt := 93) dX12_look_86 rfl (fun b86 => ?_) (fun b86 => ?_)
      · refine V_iconst dX12_look_93 ?_
        exact V_ireturn rfl ⟨by unfold aLook dmp; rw [eo, ew]; simp [bz, b86], rfl, k0, KM.rf, by unfold tLook; rw [eo, if_pos rfl, if_pos (by omega)]; exact u2_s⟩ dX12_look_94
      · refine V_iconst dX12_look_89 ?_
        refine V_goto (tgt := 94) dX12_look_90 rfl ?_
        exact V_ireturn rfl ⟨by unfold aLook dmp; rw [eo, ew]; simp [bz, b86], rfl, k0, KM.rf, by unfold tLook; rw [eo, if_pos rfl, if_pos (by omega)]; exact u2_s⟩ dX12_look_94
    · refine V_tabOut (tgt := 95) dX12_look_20 (by omega) (by first | assumption | (unfold ri at *; omega)) rfl ?_
      refine V_al0n dX12_look_95 ?_
      refine V_iconst dX12_look_96 ?_
      refine V_callV (as := [_]) ml_X12_453 im_X12_fails se_X12_fails kk104 (by decide) (by decide) dX12_look_97 rfl rfl (by decide) (by decide) (Nat.le_of_ble_eq_true rfl) (by decide) (by decide) rfl (c_fails (n := 2)) ?_
      refine pq4 ?_
      exact V_ireturn rfl ⟨by unfold aLook; rw [eo, if_pos rfl, if_neg (by omega), if_neg (by omega), if_neg (by omega), if_neg (by omega)], rfl, KM.u2 rfl k0, KM.rf, by unfold tLook; rw [eo, if_pos rfl, if_neg (by omega)]; exact u2_s⟩ dX12_look_100
  · have eo : okL T k = false := b10
    refine V_al0n dX12_look_13 ?_
    refine V_iconst dX12_look_14 ?_
    refine V_callV (as := [_]) ml_X12_453 im_X12_fails se_X12_fails kk104 (by decide) (by decide) dX12_look_15 rfl rfl (by decide) (by decide) (Nat.le_of_ble_eq_true rfl) (by decide) (by decide) rfl (c_fails (n := 1)) ?_
    refine pq4 ?_
    exact V_ireturn rfl ⟨by unfold aLook; rw [eo]; rfl, rfl, KM.u2 rfl k0, KM.rf, by unfold tLook; rw [eo]; exact u2_s⟩ dX12_look_18
def aPace (T : TT) (p k : Int) : Int := if okP T p = true then (if k = -1 then T 121 p.toNat else if okL T k = true then pce T p.toNat k.toNat else -1) else -1
theorem c_mpace {T : TT} {ρ : RT} {f : IT} {g : JT} (hρ : Fx ρ) (hT : MT T f) (hk : TOK T) {p k : Int} (rp : ri p) (rk : ri k) :
    C_X12_pace [.ref 104, .int (iz p), .int (iz k)] ρ f g (fun r ρ' f' g' => r = some (.int (iz (aPace T p k))) ∧ ρ' = ρ ∧ KM f f' ∧ KM g g') := by
  have k0 : KM f (u2 f 104 2 0) := KM.u2 rfl KM.rf
  have hT1 : MT T (u2 f 104 2 0) := hT.km k0
  have h6 := hk.la
  have h5 := hk.pl
  refine Ct.ofV (by decide) rfl (Nat.le_of_ble_eq_true rfl) ?_
  refine V_al0n dX12_pace_0 ?_
  refine V_iconst dX12_pace_1 ?_
  refine V_putI kk104 (by decide) fl_X12_154 rfl dX12_pace_2 ?_
  refine V_al0n dX12_pace_5 ?_
  refine V_il1n dX12_pace_6 ?_
  refine V_callV (as := [_]) ml_X12_456 im_X12_isPlan se_X12_isPlan kk104 (by decide) (by decide) dX12_pace_7 rfl rfl (by decide) (by decide) (Nat.le_of_ble_eq_true rfl) (by decide) (by decide) rfl (c_isPlan rp ((hT1 104 15 rfl).trans h5.1) (by unfold ri; omega)) ?_
  refine pq4 ?_
  refine V_bf (tgt := 17) dX12_pace_10 rfl (fun b10 => ?_) (fun b10 => ?_)
  · have eo : okP T p = true := b10
    have c1 := b10
    simp only [decide_eq_true_eq] at c1
    obtain ⟨pN, rfl⟩ : ∃ n : Nat, p = n := ⟨p.toNat, by omega⟩
    refine V_il2n dX12_pace_17 ?_
    refine V_iconst dX12_pace_18 ?_
    refine V_icmp_ne (tgt := 31) dX12_pace_19 rfl (by first | assumption | (unfold ri at *; omega)) (by first | assumption | (unfold ri at *; omega)) (fun b19 => ?_) (fun b19 => ?_)
    · refine V_al0n dX12_pace_31 ?_
      refine V_il2n dX12_pace_32 ?_
      refine V_callV (as := [_]) ml_X12_450 im_X12_isLane se_X12_isLane kk104 (by decide) (by decide) dX12_pace_33 rfl rfl (by decide) (by decide) (Nat.le_of_ble_eq_true rfl) (by decide) (by decide) rfl (c_isLane rk ((hT1 104 12 rfl).trans h6.1) (by unfold ri; omega)) ?_
      refine pq4 ?_
      refine V_bt (tgt := 48) dX12_pace_36 rfl (fun b36 => ?_) (fun b36 => ?_)
      · have eq : okL T k = false := b36
        have ea : aPace T (pN : Int) k = -1 := by unfold aPace; rw [eo, if_pos rfl, if_neg b19, eq]; rfl
        refine V_iconst dX12_pace_48 ?_
        exact V_ireturn rfl ⟨by rw [ea], rfl, k0, KM.rf⟩ dX12_pace_49
      · have eq : okL T k = true := b36
        have c2 := b36
        simp only [decide_eq_true_eq] at c2
        obtain ⟨kN, rfl⟩ : ∃ n : Nat, k = n := ⟨k.toNat, by omega⟩
        have ea : aPace T (pN : Int) (kN : Int) = pce T pN kN := by unfold aPace; rw [eo, if_pos rfl, if_neg b19, eq]; rfl
        refine V_al0n dX12_pace_39 ?_
        refine V_il1n dX12_pace_40 ?_
        refine V_il2n dX12_pace_41 ?_
        refine V_callV (as := [_, _]) ml_X12_459 im_X12_paceOf se_X12_paceOf kk104 (by decide) (by decide) dX12_pace_42 rfl rfl (by decide) (by decide) (Nat.le_of_ble_eq_true rfl) (by decide) (by decide) rfl (c_paceOf hρ hT1 hk (by omega : pN < nPl T) (by omega : kN < 6)) ?_
        refine pq4 ?_
        refine V_goto (tgt := 49) dX12_pace_45 rfl ?_
        exact V_ireturn rfl ⟨by rw [ea], rfl, k0, KM.rf⟩ dX12_pace_49
    · have ea : aPace T (pN : Int) k = T 121 pN := by unfold aPace; rw [eo, if_pos rfl, if_pos b19]; rfl
      refine V_al0n dX12_pace_22 ?_
      refine V_getR kk104 (by decide) fl_X12_63 (fx_104_44 hρ) dX12_pace_23 ?_
      refine V_il1n dX12_pace_26 ?_
      refine V_iald (k := pN) kk121 (by decide) (by first | rfl | omega) (by omega) (by first | decide | assumption | omega) (u2_n (by omega) (hT.at rfl (by omega : pN < 5))) dX12_pace_27 ?_
      refine V_goto (tgt := 49) dX12_pace_28 rfl ?_
      exact V_ireturn rfl ⟨by rw [ea], rfl, k0, KM.rf⟩ dX12_pace_49
  · have eo : okP T p = false := b10
    have ea : aPace T p k = -1 := by unfold aPace; rw [eo]; rfl
    refine V_iconst dX12_pace_13 ?_
    refine V_goto (tgt := 49) dX12_pace_14 rfl ?_
    exact V_ireturn rfl ⟨by rw [ea], rfl, k0, KM.rf⟩ dX12_pace_49
def aLaw (T : TT) (ra : Bool) (sk w m k pa : Int) : Int := if (zin w 0 2 && decide (T 127 w.toNat = 1) && okM T m && okL T k && zin pa 1 9) = true then (lawv T (nms T k.toNat false ra sk (T 115 m.toNat) (T 113 m.toNat) (T 114 m.toNat) pa) w.toNat).getD (-9223372036854775808) else -9223372036854775808
theorem c_mlaw {T : TT} {ρ : RT} {f : IT} {g : JT} (hρ : Fx ρ) (hT : MT T f) (hk : TOK T) {sk : Int} {ra : Bool} (hs : f 104 67 = sk) (hsk : 0 ≤ sk ∧ sk ≤ 30) (hr : f 104 68 = bz ra) {w m k pa : Int} (rw_ : ri w) (rm : ri m) (rk : ri k) (rp : ri pa) :
    C_X12_law [.ref 104, .int (iz w), .int (iz m), .int (iz k), .int (iz pa)] ρ f g (fun r ρ' f' g' => r = some (.long (lz (aLaw T ra sk w m k pa))) ∧ ρ' = ρ ∧ KM f f' ∧ KM g g') := by
  have k0 : KM f (u2 f 104 2 0) := KM.u2 rfl KM.rf
  have hT1 : MT T (u2 f 104 2 0) := hT.km k0
  have h6 := hk.la
  have h5 := hk.me
  refine Ct.ofV (by decide) rfl (Nat.le_of_ble_eq_true rfl) ?_
  refine V_al0n dX12_law_0 ?_
  refine V_iconst dX12_law_1 ?_
  refine V_putI kk104 (by decide) fl_X12_154 rfl dX12_law_2 ?_
  refine V_il1n dX12_law_5 ?_
  refine V_iconst dX12_law_6 ?_
  refine V_iconst dX12_law_7 ?_
  refine V_callS (as := [_, _, _]) ml_X12_199 sm_X12_isIn dX12_law_8 rfl rfl (by decide) (by decide) (Nat.le_of_ble_eq_true rfl) (by decide) (by decide) rfl (c_isIn rw_ (by unfold ri; omega) (by unfold ri; omega)) ?_
  refine pq4 ?_
  refine V_bt (tgt := 50) dX12_law_11 rfl (fun b11 => ?_) (fun b11 => ?_)
  · refine V_ldc2_w (a := -9223372036854775808) kl_X12_465 rfl dX12_law_50 ?_
    exact V_lreturn rfl ⟨by unfold aLaw okM okL; simp only [*]; simp [*], rfl, k0, KM.rf⟩ dX12_law_53
  · have c0_ := b11
    unfold zin at c0_
    simp only [decide_eq_true_eq] at c0_
    obtain ⟨wN, rfl⟩ : ∃ n : Nat, w = n := ⟨w.toNat, by omega⟩
    have h01 := (hk.law (w := wN) (by omega)).1
    refine V_al0n dX12_law_14 ?_
    refine V_getR kk104 (by decide) fl_X12_81 (fx_104_50 hρ) dX12_law_15 ?_
    refine V_il1n dX12_law_18 ?_
    refine V_zald (k := wN) kk127 (by decide) (by first | rfl | omega) (by omega) (by first | decide | assumption | omega) (u2_n (by omega) (hT.at rfl (by omega : wN < 8))) dX12_law_19 ?_
    refine V_if_eq (tgt := 50) dX12_law_20 rfl (by first | assumption | (unfold ri at *; omega)) (fun b20 => ?_) (fun b20 => ?_)
    · refine V_ldc2_w (a := -9223372036854775808) kl_X12_465 rfl dX12_law_50 ?_
      exact V_lreturn rfl ⟨by unfold aLaw okM okL; simp only [*]; simp [*], rfl, k0, KM.rf⟩ dX12_law_53
    · refine V_al0n dX12_law_23 ?_
      refine V_il2n dX12_law_24 ?_
      refine V_callV (as := [_]) ml_X12_462 im_X12_isMan se_X12_isMan kk104 (by decide) (by decide) dX12_law_25 rfl rfl (by decide) (by decide) (Nat.le_of_ble_eq_true rfl) (by decide) (by decide) rfl (c_isMan rm ((hT1 104 13 rfl).trans h5.1) (by unfold ri; omega)) ?_
      refine pq4 ?_
      refine V_bt (tgt := 50) dX12_law_28 rfl (fun b28 => ?_) (fun b28 => ?_)
      · refine V_ldc2_w (a := -9223372036854775808) kl_X12_465 rfl dX12_law_50 ?_
        exact V_lreturn rfl ⟨by unfold aLaw okM okL; simp only [*]; simp [*], rfl, k0, KM.rf⟩ dX12_law_53
      · refine V_al0n dX12_law_31 ?_
        refine V_il3n dX12_law_32 ?_
        refine V_callV (as := [_]) ml_X12_450 im_X12_isLane se_X12_isLane kk104 (by decide) (by decide) dX12_law_33 rfl rfl (by decide) (by decide) (Nat.le_of_ble_eq_true rfl) (by decide) (by decide) rfl (c_isLane rk ((hT1 104 12 rfl).trans h6.1) (by unfold ri; omega)) ?_
        refine pq4 ?_
        refine V_bt (tgt := 50) dX12_law_36 rfl (fun b36 => ?_) (fun b36 => ?_)
        · refine V_ldc2_w (a := -9223372036854775808) kl_X12_465 rfl dX12_law_50 ?_
          exact V_lreturn rfl ⟨by unfold aLaw okM okL; simp only [*]; simp [*], rfl, k0, KM.rf⟩ dX12_law_53
        · refine V_il4 dX12_law_39 ?_
          refine V_iconst dX12_law_41 ?_
          refine V_bipush dX12_law_42 rfl ?_
          refine V_callS (as := [_, _, _]) ml_X12_199 sm_X12_isIn dX12_law_44 rfl rfl (by decide) (by decide) (Nat.le_of_ble_eq_true rfl) (by decide) (by decide) rfl (c_isIn rp (by unfold ri; omega) (by unfold ri; omega)) ?_
          refine pq4 ?_
          refine V_bf (tgt := 54) dX12_law_47 rfl (fun b47 => ?_) (fun b47 => ?_)
          · have c1 := b28
            have c2 := b36
            have c3 := b47
            unfold zin at c3
            simp only [decide_eq_true_eq] at c1 c2 c3
            obtain ⟨mN, rfl⟩ : ∃ n : Nat, m = n := ⟨m.toNat, by omega⟩
            obtain ⟨kN, rfl⟩ : ∃ n : Nat, k = n := ⟨k.toNat, by omega⟩
            have e20 : T 127 wN = 1 := by omega
            obtain ⟨k1, k2, k3⟩ := c0_ok hk (m := mN) (by omega) (ra := ra) hsk
            have hmm := hk.man (k := mN) (by omega)
            have ea : aLaw T ra sk (wN : Int) (mN : Int) (kN : Int) pa = (lawv T (nms T kN false ra sk (T 115 mN) (T 113 mN) (T 114 mN) pa) wN).getD (-9223372036854775808) := by unfold aLaw okM okL; simp only [b11, b28, b36, b47]; simp [e20]
            refine V_al0n dX12_law_54 ?_
            refine V_il2n dX12_law_55 ?_
            refine V_callV (as := [_]) ml_X12_467 im_X12_begins se_X12_begins kk104 (by decide) (by decide) dX12_law_56 rfl rfl (by decide) (by decide) (Nat.le_of_ble_eq_true rfl) (by decide) (by decide) rfl (c_begins1 hρ hT1 hk (m := mN) (by omega) (ra := ra) (u2_n (by omega) hs) (u2_n (by omega) hr)) ?_
            rintro r56 ρ56 f56 g56 ⟨rfl, s56_0, hM, km, hT2, kb, s56_1⟩
            obtain rfl := s56_0.symm
            obtain rfl := s56_1.symm
            obtain ⟨m1, m2, m3, m4, m5, m6, m7, m8, m9⟩ := hM
            have nb := nms_inB hk (k := kN) (by omega) (fl := false) (ra := ra) (sk := sk) (wt := T 115 mN) (wi := T 113 mN) (le := T 114 mN) (pa := pa) (by omega) (by omega) (by omega) (by omega) (by omega)
            refine V_al0n dX12_law_59 ?_
            refine V_il3n dX12_law_60 ?_
            refine V_il4 dX12_law_61 ?_
            refine V_callV (as := [_, _]) ml_X12_433 im_X12_layNames se_X12_layNames kk104 (by decide) (by decide) dX12_law_63 rfl rfl (by decide) (by decide) (Nat.le_of_ble_eq_true rfl) (by decide) (by decide) rfl (c_layNames hρ hT2 hk (k := kN) (by omega) m2 m1 m3 m4 m7 m8 (by unfold ri; simp only [c0]; omega) (by unfold ri; simp only [c0]; omega) (by unfold ri; simp only [s0]; omega) (by unfold ri; simp only [s0]; omega) rp) ?_
            rintro r63 ρ63 f63 g63 ⟨rfl, s63_0, s63_1, n63, e63⟩
            obtain rfl := s63_0.symm
            obtain rfl := s63_1.symm
            refine V_al0n dX12_law_66 ?_
            refine V_il1n dX12_law_67 ?_
            refine V_callV (as := [_]) ml_X12_430 im_X12_lawOf se_X12_lawOf kk104 (by decide) (by decide) dX12_law_68 rfl rfl (by decide) (by decide) (Nat.le_of_ble_eq_true rfl) (by decide) (by decide) rfl (c_lawOf hρ hT2 hk (w := wN) (by omega) e20 (fun j hj => ⟨n63 j hj, nb j⟩)) ?_
            rintro r68 ρ68 f68 g68 ⟨v, rfl, hv, ev, s68_0, rfl, hg⟩
            obtain rfl := s68_0.symm
            refine V_ls5 dX12_law_71 (by decide) rfl ?_
            refine V_al0n dX12_law_73 ?_
            refine V_getZ kk104 (by decide) fl_X12_386 u2_s dX12_law_74 ?_
            refine V_bt (tgt := 86) dX12_law_77 rfl (fun b77 => ?_) (fun b77 => ?_)
            · refine V_ll5 dX12_law_86 ?_
              exact V_lreturn rfl ⟨(by rw [ea]; simp only [c0, s0] at ev b77; cases hL : lawv T (nms T kN false ra sk (T 115 mN) (T 113 mN) (T 114 mN) pa) wN with | none => (rw [hL] at b77 ev; first | rfl | (exfalso; cases b77)) | some v' => (rw [hL] at b77 ev; first | (rw [ev]; rfl) | (exfalso; cases b77))), rfl, (k0.tr km).tr (KM.u2 rfl KM.rf), fun a k hs => by rw [hg a (fun q => by subst q; cases hs), e63 a (fun q => by subst q; cases hs)]⟩ dX12_law_88
            · refine V_ldc2_w (a := -9223372036854775808) kl_X12_465 rfl dX12_law_80 ?_
              refine V_goto (tgt := 88) dX12_law_83 rfl ?_
              exact V_lreturn rfl ⟨(by rw [ea]; simp only [c0, s0] at ev b77; cases hL : lawv T (nms T kN false ra sk (T 115 mN) (T 113 mN) (T 114 mN) pa) wN with | none => (rw [hL] at b77 ev; first | rfl | (exfalso; cases b77)) | some v' => (rw [hL] at b77 ev; first | (rw [ev]; rfl) | (exfalso; cases b77))), rfl, (k0.tr km).tr (KM.u2 rfl KM.rf), fun a k hs => by rw [hg a (fun q => by subst q; cases hs), e63 a (fun q => by subst q; cases hs)]⟩ dX12_law_88
          · refine V_ldc2_w (a := -9223372036854775808) kl_X12_465 rfl dX12_law_50 ?_
            exact V_lreturn rfl ⟨by unfold aLaw okM okL; simp only [*]; simp [*], rfl, k0, KM.rf⟩ dX12_law_53
theorem fnd_cg {r r' : Nat → Int} {o n : Nat} {x : Int} (h : ∀ j, j < n → r (o + j) = r' (o + j)) : fnd r o n x = fnd r' o n x := by
  have key : ∀ l : List Nat, (∀ j ∈ l, j < n) → l.find? (fun j => decide (r (o + j) = x)) = l.find? (fun j => decide (r' (o + j) = x)) := by
    intro l
    induction l with
    | nil => intro _; rfl
    | cons a l ih =>
      intro hl
      simp only [List.find?_cons]
      rw [h a (hl a (by simp)), ih (fun j hj => hl j (by simp [hj]))]
  unfold fnd
  rw [key _ (fun j hj => by simpa using hj)]
/-- names are ints -/
def NOK (T : TT) : Prop := ∀ a k, k < half a → ri (T a k)
def aNamed (T : TT) (w x : Int) : Int := if w = 0 then fnd (T 107) 0 (nLa T) x else if w = 1 then fnd (T 112) 0 (nMe T) x else if w = 2 then fnd (T 116) 0 (nHo T) x else if w = 3 then fnd (T 120) 0 (nPl T) x else if w = 4 then fnd (T 124) 0 (nJu T) x else -1
theorem c_mnamed {T : TT} {ρ : RT} {f : IT} {g : JT} (hρ : Fx ρ) (hT : MT T f) (hk : TOK T) (hN : NOK T) {w x : Int} (rw_ : ri w) (rx : ri x) :
    C_X12_named [.ref 104, .int (iz w), .int (iz x)] ρ f g (fun r ρ' f' g' => r = some (.int (iz (aNamed T w x))) ∧ ρ' = ρ ∧ KM f f' ∧ KM g g') := by
  have k0 : KM f (u2 f 104 2 0) := KM.u2 rfl KM.rf
  have hT1 : MT T (u2 f 104 2 0) := hT.km k0
  have h1 := hk.la
  have h2 := hk.me
  have h3 := hk.ho
  have h4 := hk.pl
  have h5 := hk.ju
  refine Ct.ofV (by decide) rfl (Nat.le_of_ble_eq_true rfl) ?_
  refine V_al0n dX12_named_0 ?_
  refine V_iconst dX12_named_1 ?_
  refine V_putI kk104 (by decide) fl_X12_154 rfl dX12_named_2 ?_
  refine V_il1n dX12_named_5 ?_
  rcases (show w = 0 ∨ w = 1 ∨ w = 2 ∨ w = 3 ∨ w = 4 ∨ (w < 0 ∨ 4 < w) by omega) with ew | ew | ew | ew | ew | ew
  · refine V_tabIn (tgt := 40) (i := 0) dX12_named_6 (by first | rfl | omega) (by decide) (by first | decide | assumption | (unfold ri at *; omega)) rfl rfl ?_
    refine V_al0n dX12_named_40 ?_
    refine V_getR kk104 (by decide) fl_X12_20 (fx_104_30 hρ) dX12_named_41 ?_
    refine V_iconst dX12_named_44 ?_
    refine V_al0n dX12_named_45 ?_
    refine V_getI kk104 (by decide) fl_X12_250 (u2_n (by decide) ((hT 104 12 rfl).trans h1.1)) dX12_named_46 ?_
    refine V_il2n dX12_named_49 ?_
    refine V_callS (as := [_, _, _, _]) ml_X12_304 sm_X12_find dX12_named_50 rfl rfl (by decide) (by decide) (Nat.le_of_ble_eq_true rfl) (by decide) (by decide) rfl (c_find kk107 (by omega) (o := 0) (n := nLa T) (by omega) rx (fun j hj => by rw [hT1.at (n := 6) rfl (by omega)]; exact hN _ _ (show 0 + j < 6 by omega))) ?_
    refine pq4 ?_
    exact V_ireturn rfl ⟨by unfold aNamed; rw [ew, if_pos rfl, fnd_cg (fun j hj => hT1.at (n := 6) rfl (by omega))], rfl, k0, KM.rf⟩ dX12_named_53
  · refine V_tabIn (tgt := 54) (i := 1) dX12_named_6 (by first | rfl | omega) (by decide) (by first | decide | assumption | (unfold ri at *; omega)) rfl rfl ?_
    refine V_al0n dX12_named_54 ?_
    refine V_getR kk104 (by decide) fl_X12_36 (fx_104_35 hρ) dX12_named_55 ?_
    refine V_iconst dX12_named_58 ?_
    refine V_al0n dX12_named_59 ?_
    refine V_getI kk104 (by decide) fl_X12_253 (u2_n (by decide) ((hT 104 13 rfl).trans h2.1)) dX12_named_60 ?_
    refine V_il2n dX12_named_63 ?_
    refine V_callS (as := [_, _, _, _]) ml_X12_304 sm_X12_find dX12_named_64 rfl rfl (by decide) (by decide) (Nat.le_of_ble_eq_true rfl) (by decide) (by decide) rfl (c_find kk112 (by omega) (o := 0) (n := nMe T) (by omega) rx (fun j hj => by rw [hT1.at (n := 5) rfl (by omega)]; exact hN _ _ (show 0 + j < 5 by omega))) ?_
    refine pq4 ?_
    exact V_ireturn rfl ⟨by unfold aNamed; rw [ew, if_neg (by omega), if_pos rfl, fnd_cg (fun j hj => hT1.at (n := 5) rfl (by omega))], rfl, k0, KM.rf⟩ dX12_named_67
  · refine V_tabIn (tgt := 68) (i := 2) dX12_named_6 (by first | rfl | omega) (by decide) (by first | decide | assumption | (unfold ri at *; omega)) rfl rfl ?_
    refine V_al0n dX12_named_68 ?_
    refine V_getR kk104 (by decide) fl_X12_48 (fx_104_39 hρ) dX12_named_69 ?_
    refine V_iconst dX12_named_72 ?_
    refine V_al0n dX12_named_73 ?_
    refine V_getI kk104 (by decide) fl_X12_256 (u2_n (by decide) ((hT 104 14 rfl).trans h3.1)) dX12_named_74 ?_
    refine V_il2n dX12_named_77 ?_
    refine V_callS (as := [_, _, _, _]) ml_X12_304 sm_X12_find dX12_named_78 rfl rfl (by decide) (by decide) (Nat.le_of_ble_eq_true rfl) (by decide) (by decide) rfl (c_find kk116 (by omega) (o := 0) (n := nHo T) (by omega) rx (fun j hj => by rw [hT1.at (n := 3) rfl (by omega)]; exact hN _ _ (show 0 + j < 3 by omega))) ?_
    refine pq4 ?_
    exact V_ireturn rfl ⟨by unfold aNamed; rw [ew, if_neg (by omega), if_neg (by omega), if_pos rfl, fnd_cg (fun j hj => hT1.at (n := 3) rfl (by omega))], rfl, k0, KM.rf⟩ dX12_named_81
  · refine V_tabIn (tgt := 82) (i := 3) dX12_named_6 (by first | rfl | omega) (by decide) (by first | decide | assumption | (unfold ri at *; omega)) rfl rfl ?_
    refine V_al0n dX12_named_82 ?_
    refine V_getR kk104 (by decide) fl_X12_60 (fx_104_43 hρ) dX12_named_83 ?_
    refine V_iconst dX12_named_86 ?_
    refine V_al0n dX12_named_87 ?_
    refine V_getI kk104 (by decide) fl_X12_259 (u2_n (by decide) ((hT 104 15 rfl).trans h4.1)) dX12_named_88 ?_
    refine V_il2n dX12_named_91 ?_
    refine V_callS (as := [_, _, _, _]) ml_X12_304 sm_X12_find dX12_named_92 rfl rfl (by decide) (by decide) (Nat.le_of_ble_eq_true rfl) (by decide) (by decide) rfl (c_find kk120 (by omega) (o := 0) (n := nPl T) (by omega) rx (fun j hj => by rw [hT1.at (n := 5) rfl (by omega)]; exact hN _ _ (show 0 + j < 5 by omega))) ?_
    refine pq4 ?_
    exact V_ireturn rfl ⟨by unfold aNamed; rw [ew, if_neg (by omega), if_neg (by omega), if_neg (by omega), if_pos rfl, fnd_cg (fun j hj => hT1.at (n := 5) rfl (by omega))], rfl, k0, KM.rf⟩ dX12_named_95
  · refine V_tabIn (tgt := 96) (i := 4) dX12_named_6 (by first | rfl | omega) (by decide) (by first | decide | assumption | (unfold ri at *; omega)) rfl rfl ?_
    refine V_al0n dX12_named_96 ?_
    refine V_getR kk104 (by decide) fl_X12_72 (fx_104_47 hρ) dX12_named_97 ?_
    refine V_iconst dX12_named_100 ?_
    refine V_al0n dX12_named_101 ?_
    refine V_getI kk104 (by decide) fl_X12_262 (u2_n (by decide) ((hT 104 16 rfl).trans h5.1)) dX12_named_102 ?_
    refine V_il2n dX12_named_105 ?_
    refine V_callS (as := [_, _, _, _]) ml_X12_304 sm_X12_find dX12_named_106 rfl rfl (by decide) (by decide) (Nat.le_of_ble_eq_true rfl) (by decide) (by decide) rfl (c_find kk124 (by omega) (o := 0) (n := nJu T) (by omega) rx (fun j hj => by rw [hT1.at (n := 4) rfl (by omega)]; exact hN _ _ (show 0 + j < 4 by omega))) ?_
    refine pq4 ?_
    exact V_ireturn rfl ⟨by unfold aNamed; rw [ew, if_neg (by omega), if_neg (by omega), if_neg (by omega), if_neg (by omega), if_pos rfl, fnd_cg (fun j hj => hT1.at (n := 4) rfl (by omega))], rfl, k0, KM.rf⟩ dX12_named_109
  · refine V_tabOut (tgt := 110) dX12_named_6 (by omega) (by first | assumption | (unfold ri at *; omega)) rfl ?_
    refine V_iconst dX12_named_110 ?_
    exact V_ireturn rfl ⟨by unfold aNamed; rw [if_neg (by omega), if_neg (by omega), if_neg (by omega), if_neg (by omega), if_neg (by omega)], rfl, k0, KM.rf⟩ dX12_named_111

