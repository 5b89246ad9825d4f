section CSAFE
variable {T : TT} {b : Nat} {ρ : RT} {f : IT} {g : JT}
theorem w_cisSafe {Q : QT} {f0 : IT} {g0 : JT} (hW : TW T b ρ) {ra : Bool} {m h : Nat} (hm : m < nMe T) (hh : h < nHo T) {sk : Int} (hsk : 0 ≤ sk ∧ sk ≤ 30) {pa : Int} (hp : 1 ≤ pa ∧ pa ≤ 9) (hE0 : GE T (c0 T ra sk m) f0) {v3 : Value} {R : Bool}
    (hQ : ∀ (f : IT) (g : JT), CT T b f → GI T false ra f g → WLk b f0 g0 f g → Q (some (.int (iz (bz R)))) ρ f g)
    (n : Nat) (w : Int) (hw : 1 ≤ w ∧ w ≤ T 113 m) (hn : n = (T 113 m - w).toNat) (f : IT) (g : JT) (hC : CT T b f) (hG : GI T false ra f g) (hK : WLk b f0 g0 f g) (hR : isS T ra sk m h pa n w = R) :
    V_X11_isSafe Q 3 [.ref 0, .int (iz (m : Int)), .int (iz (h : Int)), v3, .int (iz pa), .int (iz w)] [] ρ f g := by
  have hk := hW.2.2.2.2.1
  have hρ := hW.1
  have hb := hW.2.1
  have hma := hk.man hm
  have h5' := hk.me
  have t := tat1 hk (j := 0) hm (by omega)
  simp [tcl] at t
  have hat := c_at (f := f) (g := g) hW.1 hW.2.1 hC hk (i := 1) (by omega) (k := (m : Int)) (j := 0) (by unfold ri; omega) (by unfold ri; omega)
  rw [t] at hat
  cases n with
  | zero =>
    simp only [isS] at hR
    subst hR
    refine V_il5 dX11_isSafe_3 ?_
    refine V_al0n dX11_isSafe_5 ?_
    refine V_getR kk0 (by decide) fl_X11_29 hW.2.2.1 dX11_isSafe_6 ?_
    refine V_iconst dX11_isSafe_9 ?_
    refine V_il1n dX11_isSafe_10 ?_
    refine V_iconst dX11_isSafe_11 ?_
    refine V_callV (as := [_, _, _]) ml_X11_176 im_X7_at se_X7_at (kb_0 hb) (by decide) (kl_0 hb) dX11_isSafe_12 rfl rfl (by decide) (by decide) (Nat.le_of_ble_eq_true rfl) (by decide) (by decide) rfl (hat) ?_
    refine pq4 ?_
    refine V_icmp_ge (tgt := 41) dX11_isSafe_15 rfl (by unfold ri; omega) (by unfold ri; omega) (fun b15 => ?_) (fun b15 => ?_)
    · refine V_iconst dX11_isSafe_41 ?_
      exact V_zreturn rfl (by first | exact Or.inl rfl | exact Or.inr rfl | (unfold bz; split <;> simp)) (hQ f g hC hG hK) dX11_isSafe_42
    · exfalso; omega
  | succ n' =>
    have hten := tenS_rng hk (ra := ra) hsk hm hh hp (w := w) (by omega)
    have hst := c_steadyTenths (f := f) (g := g) hW hC hG hm hh hsk hp (top := w) (by omega) (hE0.cg (fun k => hK.1 55 k (by omega) (by omega)))
    rw [isS] at hR
    refine V_il5 dX11_isSafe_3 ?_
    refine V_al0n dX11_isSafe_5 ?_
    refine V_getR kk0 (by decide) fl_X11_29 hW.2.2.1 dX11_isSafe_6 ?_
    refine V_iconst dX11_isSafe_9 ?_
    refine V_il1n dX11_isSafe_10 ?_
    refine V_iconst dX11_isSafe_11 ?_
    refine V_callV (as := [_, _, _]) ml_X11_176 im_X7_at se_X7_at (kb_0 hb) (by decide) (kl_0 hb) dX11_isSafe_12 rfl rfl (by decide) (by decide) (Nat.le_of_ble_eq_true rfl) (by decide) (by decide) rfl (hat) ?_
    refine pq4 ?_
    refine V_icmp_ge (tgt := 41) dX11_isSafe_15 rfl (by unfold ri; omega) (by unfold ri; omega) (fun b15 => ?_) (fun b15 => ?_)
    · exfalso; omega
    · refine V_al0n dX11_isSafe_18 ?_
      refine V_il1n dX11_isSafe_19 ?_
      refine V_il2n dX11_isSafe_20 ?_
      refine V_il5 dX11_isSafe_21 ?_
      refine V_il4 dX11_isSafe_23 ?_
      refine V_callV (as := [_, _, _, _]) ml_X11_286 im_X11_steadyTenths se_X11_steadyTenths kk0 (by decide) (by decide) dX11_isSafe_25 rfl rfl (by decide) (by decide) (Nat.le_of_ble_eq_true rfl) (by decide) (by decide) rfl (hst) ?_
      rintro r25 ρ25 f25 g25 ⟨rfl, s25_0, q1, q2, q3⟩
      obtain rfl := s25_0.symm
      refine V_bipush dX11_isSafe_28 rfl ?_
      refine V_icmp_ne (tgt := 35) dX11_isSafe_30 rfl (by unfold ri; split <;> omega) (by unfold ri; omega) (fun b30 => ?_) (fun b30 => ?_)
      · refine V_inc5 dX11_isSafe_35 (by decide) rfl ?_
        refine V_goto (tgt := 3) dX11_isSafe_38 rfl ?_
        rw [if_pos (by split at b30 <;> omega)] at hR; exact w_cisSafe hW hm hh hsk hp hE0 hQ n' (w + 1) (by omega) (by omega) _ _ q1 q2 (hK.tr q3) hR
      · refine V_iconst dX11_isSafe_33 ?_
        exact V_zreturn rfl (by first | exact Or.inl rfl | exact Or.inr rfl | (unfold bz; split <;> simp)) (by rw [if_neg (by split at b30 <;> omega)] at hR; subst hR; exact hQ _ _ q1 q2 (hK.tr q3)) dX11_isSafe_34
termination_by n
theorem c_isSafe (hW : TW T b ρ) (hC : CT T b f) {ra : Bool} (hG : GI T false ra f g) {m h : Nat} (hm : m < nMe T) (hh : h < nHo T) {sk : Int} (hsk : 0 ≤ sk ∧ sk ≤ 30) {pa fr : Int} (hp : 1 ≤ pa ∧ pa ≤ 9) (hf : 1 ≤ fr ∧ fr ≤ T 113 m) (hE : GE T (c0 T ra sk m) f) :
    C_X11_isSafe [.ref 0, .int (iz (m : Int)), .int (iz (h : Int)), .int (iz fr), .int (iz pa)] ρ f g (fun r ρ' f' g' => r = some (.int (iz (bz (isS T ra sk m h pa (T 113 m - fr).toNat fr)))) ∧ ρ' = ρ ∧ CT T b f' ∧ GI T false ra f' g' ∧ WLk b f g f' g') := by
  refine Ct.ofV (by decide) rfl (Nat.le_of_ble_eq_true rfl) ?_
  refine V_il3n dX11_isSafe_0 ?_
  refine V_is5 dX11_isSafe_1 (by decide) rfl ?_
  exact w_cisSafe hW hm hh hsk hp hE (fun f' g' a1 a2 a3 => ⟨rfl, rfl, a1, a2, a3⟩) _ fr hf rfl f g hC hG WLk.rf rfl
theorem w_csafe {Q : QT} {f0 : IT} {g0 : JT} (hW : TW T b ρ) {ra : Bool} {m h : Nat} (hm : m < nMe T) (hh : h < nHo T) {sk : Int} (hsk : 0 ≤ sk ∧ sk ≤ 30) {fr wt : Int} (hfr : 1 ≤ fr ∧ fr ≤ T 113 m) (hwt : ri wt) (hE0 : GE T (c0 T ra sk m) f0) {R : Int × Int}
    (hQ : ∀ (f : IT) (g : JT), CT T b f → GI T false ra f g → WLk b f0 g0 f g → Q (some (.int (iz (if R.1 < 0 then -2 else if wt = 0 then R.1 else R.2)))) ρ f g)
    (i : Nat) (hi : 1 ≤ i ∧ i ≤ 10) (x : Int × Int) {X1 X2 : Int} (hX : (x.1 = -2 ∧ x.2 = 99999 ∧ X1 = -2 ∧ X2 = -2) ∨ (0 ≤ x.1 ∧ x.1 ≤ 10 ∧ X1 = x.1 ∧ X2 = x.2 ∧ 0 ≤ x.2 ∧ x.2 ≤ 99998)) (f : IT) (g : JT) (hC : CT T b f) (hG : GI T false ra f g) (hK : WLk b f0 g0 f g) (hR : sfR T ra sk m h fr (10 - i) (i : Int) x = R) :
    V_X11_safe Q 54 [.ref 0, .int (iz (m : Int)), .int (iz (h : Int)), .int (iz fr), .int (iz wt), .int (iz X1), .int (iz X2), .int (iz (i : Int)), .null, .null] [] ρ f g := by
  have hk := hW.2.2.2.2.1
  have hρ := hW.1
  have hb := hW.2.1
  have hma := hk.man hm
  have h5' := hk.me
  have t := tat1 hk (j := 0) hm (by omega)
  simp [tcl] at t
  have hat := c_at (f := f) (g := g) hW.1 hW.2.1 hC hk (i := 1) (by omega) (k := (m : Int)) (j := 0) (by unfold ri; omega) (by unfold ri; omega)
  rw [t] at hat
  have rX1 : ri X1 := by unfold ri; omega
  have rX2 : ri X2 := by unfold ri; omega
  by_cases e : i = 10
  · subst e
    simp only [Nat.sub_self, sfR] at hR
    subst hR
    have hq := hQ f g hC hG hK
    refine V_il7 dX11_safe_54 ?_
    refine V_bipush dX11_safe_56 rfl ?_
    refine V_icmp_gt (tgt := 140) dX11_safe_58 rfl (by unfold ri; omega) (by unfold ri; omega) (fun b58 => ?_) (fun b58 => ?_)
    · refine V_il4 dX11_safe_140 ?_
      refine V_if_ne (tgt := 150) dX11_safe_142 rfl hwt (fun b142 => ?_) (fun b142 => ?_)
      · refine V_il6 dX11_safe_150 ?_
        exact V_ireturn rfl (by first | (rw [show (if x.1 < 0 then (-2 : Int) else if wt = 0 then x.1 else x.2) = X1 by (repeat' split) <;> omega] at hq; exact hq) | (rw [show (if x.1 < 0 then (-2 : Int) else if wt = 0 then x.1 else x.2) = X2 by (repeat' split) <;> omega] at hq; exact hq)) dX11_safe_152
      · refine V_il5 dX11_safe_145 ?_
        refine V_goto (tgt := 152) dX11_safe_147 rfl ?_
        exact V_ireturn rfl (by first | (rw [show (if x.1 < 0 then (-2 : Int) else if wt = 0 then x.1 else x.2) = X1 by (repeat' split) <;> omega] at hq; exact hq) | (rw [show (if x.1 < 0 then (-2 : Int) else if wt = 0 then x.1 else x.2) = X2 by (repeat' split) <;> omega] at hq; exact hq)) dX11_safe_152
    · exfalso; omega
  · rw [show 10 - i = (10 - (i + 1)) + 1 by omega, sfR] at hR
    have hten := tenS_rng hk (ra := ra) hsk hm hh (pa := (i : Int)) (by omega) (w := T 113 m) (by omega)
    have hE : GE T (c0 T ra sk m) f := hE0.cg (fun k => hK.1 55 k (by omega) (by omega))
    have hst := c_steadyTenths (f := f) (g := g) hW hC hG hm hh hsk (pa := (i : Int)) (by omega) (top := T 113 m) (by omega) hE
    have nx : ∀ (R2 : Int × Int) (Y1 Y2 : Int), ((R2.1 = -2 ∧ R2.2 = 99999 ∧ Y1 = -2 ∧ Y2 = -2) ∨ (0 ≤ R2.1 ∧ R2.1 ≤ 10 ∧ Y1 = R2.1 ∧ Y2 = R2.2 ∧ 0 ≤ R2.2 ∧ R2.2 ≤ 99998)) → ∀ (f : IT) (g : JT), CT T b f → GI T false ra f g → WLk b f0 g0 f g → sfR T ra sk m h fr (10 - (i + 1)) ((i : Int) + 1) R2 = R → V_X11_safe Q 54 [.ref 0, .int (iz (m : Int)), .int (iz (h : Int)), .int (iz fr), .int (iz wt), .int (iz Y1), .int (iz Y2), .int (iz ((i : Int) + 1)), .null, .null] [] ρ f g := fun R2 Y1 Y2 z1 f g z2 z3 z4 z5 => w_csafe hW hm hh hsk hfr hwt hE0 hQ (i + 1) (by omega) R2 z1 f g z2 z3 z4 z5
    have hsf := fun (f' : IT) (g' : JT) (q1 : CT T b f') (q2 : GI T false ra f' g') (q3 : WLk b f g f' g') => c_isSafe (f := f') (g := g') hW q1 q2 hm hh hsk (pa := (i : Int)) (by omega) hfr (hE.cg (fun k => q3.1 55 k (by omega) (by omega)))
    generalize tenS (std T ra sk m h (i : Int) (T 113 m)) = S at *
    generalize isS T ra sk m h (i : Int) (T 113 m - fr).toNat fr = B at *
    refine V_il7 dX11_safe_54 ?_
    refine V_bipush dX11_safe_56 rfl ?_
    refine V_icmp_gt (tgt := 140) dX11_safe_58 rfl (by unfold ri; omega) (by unfold ri; omega) (fun b58 => ?_) (fun b58 => ?_)
    · exfalso; omega
    · refine V_al0n dX11_safe_61 ?_
      refine V_il1n dX11_safe_62 ?_
      refine V_il2n dX11_safe_63 ?_
      refine V_al0n dX11_safe_64 ?_
      refine V_getR kk0 (by decide) fl_X11_29 hW.2.2.1 dX11_safe_65 ?_
      refine V_iconst dX11_safe_68 ?_
      refine V_il1n dX11_safe_69 ?_
      refine V_iconst dX11_safe_70 ?_
      refine V_callV (as := [_, _, _]) ml_X11_176 im_X7_at se_X7_at (kb_0 hb) (by decide) (kl_0 hb) dX11_safe_71 rfl rfl (by decide) (by decide) (Nat.le_of_ble_eq_true rfl) (by decide) (by decide) rfl (hat) ?_
      refine pq4 ?_
      refine V_il7 dX11_safe_74 ?_
      refine V_callV (as := [_, _, _, _]) ml_X11_286 im_X11_steadyTenths se_X11_steadyTenths kk0 (by decide) (by decide) dX11_safe_76 rfl rfl (by decide) (by decide) (Nat.le_of_ble_eq_true rfl) (by decide) (by decide) rfl (hst) ?_
      rintro r76 ρ76 f76 g76 ⟨rfl, s76_0, q1, q2, q3⟩
      obtain rfl := s76_0.symm
      refine V_is8 dX11_safe_79 (by decide) rfl ?_
      refine V_il8 dX11_safe_81 ?_
      refine V_bipush dX11_safe_83 rfl ?_
      refine V_icmp_eq (tgt := 106) dX11_safe_85 rfl (by unfold ri; split <;> omega) (by unfold ri; omega) (fun b85 => ?_) (fun b85 => ?_)
      · refine V_iconst dX11_safe_106 ?_
        refine V_is9 dX11_safe_107 (by decide) rfl ?_
        refine V_il9 dX11_safe_109 ?_
        refine V_if_eq (tgt := 134) dX11_safe_111 rfl (by unfold ri; decide) (fun b111 => ?_) (fun b111 => by exfalso; revert b111; decide)
        refine V_inc7 dX11_safe_134 (by decide) rfl ?_
        refine V_goto (tgt := 54) dX11_safe_137 rfl ?_
        rw [if_neg (by first | (split <;> (split at b85 <;> omega)) | (split <;> (split at b99 <;> omega)))] at hR; exact V_weak (by repeat (first | exact wk_n | refine wk_c (Or.inr rfl) ?_ | refine wk_c (Or.inl rfl) ?_)) (nx x X1 X2 hX _ _ q1 q2 (hK.tr q3) hR)
      · refine V_il5 dX11_safe_88 ?_
        refine V_bipush dX11_safe_90 rfl ?_
        refine V_icmp_eq (tgt := 102) dX11_safe_92 rfl rX1 (by unfold ri; omega) (fun b92 => ?_) (fun b92 => ?_)
        · refine V_iconst dX11_safe_102 ?_
          refine V_goto (tgt := 107) dX11_safe_103 rfl ?_
          refine V_is9 dX11_safe_107 (by decide) rfl ?_
          refine V_il9 dX11_safe_109 ?_
          refine V_if_eq (tgt := 134) dX11_safe_111 rfl (by unfold ri; decide) (fun b111 => by exfalso; revert b111; decide) (fun b111 => ?_)
          refine V_al0n dX11_safe_114 ?_
          refine V_il1n dX11_safe_115 ?_
          refine V_il2n dX11_safe_116 ?_
          refine V_il3n dX11_safe_117 ?_
          refine V_il7 dX11_safe_118 ?_
          refine V_callV (as := [_, _, _, _]) ml_X11_290 im_X11_isSafe se_X11_isSafe kk0 (by decide) (by decide) dX11_safe_120 rfl rfl (by decide) (by decide) (Nat.le_of_ble_eq_true rfl) (by decide) (by decide) rfl (hsf f76 g76 q1 q2 q3) ?_
          rintro r120 ρ120 f120 g120 ⟨rfl, s120_0, p1, p2, p3⟩
          obtain rfl := s120_0.symm
          refine V_bt (tgt := 134) dX11_safe_123 rfl (fun b123 => ?_) (fun b123 => ?_)
          · refine V_inc7 dX11_safe_134 (by decide) rfl ?_
            refine V_goto (tgt := 54) dX11_safe_137 rfl ?_
            rw [b123, if_neg Bool.false_ne_true, if_neg (by omega)] at hR; exact V_weak (by repeat (first | exact wk_n | refine wk_c (Or.inr rfl) ?_ | refine wk_c (Or.inl rfl) ?_)) (nx x X1 X2 hX _ _ p1 p2 (hK.tr (q3.tr p3)) hR)
          · refine V_il7 dX11_safe_126 ?_
            refine V_is5 dX11_safe_128 (by decide) rfl ?_
            refine V_il8 dX11_safe_130 ?_
            refine V_is6 dX11_safe_132 (by decide) rfl ?_
            refine V_inc7 dX11_safe_134 (by decide) rfl ?_
            refine V_goto (tgt := 54) dX11_safe_137 rfl ?_
            (have hS9 : S ≠ 99999 := by (intro z; rw [if_pos z] at b85; omega)); rw [b123, if_pos rfl, if_pos (by first | omega | (rw [if_neg hS9] at b99; omega))] at hR; exact V_weak (by repeat (first | exact wk_n | refine wk_c (Or.inr rfl) ?_ | refine wk_c (Or.inl rfl) ?_)) (nx ((i : Int), S) (i : Int) _ (Or.inr ⟨by simp only; omega, by simp only; omega, rfl, if_neg hS9, by simp only; omega, by simp only; omega⟩) _ _ p1 p2 (hK.tr (q3.tr p3)) hR)
        · refine V_il8 dX11_safe_95 ?_
          refine V_il6 dX11_safe_97 ?_
          refine V_icmp_ge (tgt := 106) dX11_safe_99 rfl (by unfold ri; split <;> omega) rX2 (fun b99 => ?_) (fun b99 => ?_)
          · refine V_iconst dX11_safe_106 ?_
            refine V_is9 dX11_safe_107 (by decide) rfl ?_
            refine V_il9 dX11_safe_109 ?_
            refine V_if_eq (tgt := 134) dX11_safe_111 rfl (by unfold ri; decide) (fun b111 => ?_) (fun b111 => by exfalso; revert b111; decide)
            refine V_inc7 dX11_safe_134 (by decide) rfl ?_
            refine V_goto (tgt := 54) dX11_safe_137 rfl ?_
            rw [if_neg (by first | (split <;> (split at b85 <;> omega)) | (split <;> (split at b99 <;> omega)))] at hR; exact V_weak (by repeat (first | exact wk_n | refine wk_c (Or.inr rfl) ?_ | refine wk_c (Or.inl rfl) ?_)) (nx x X1 X2 hX _ _ q1 q2 (hK.tr q3) hR)
          · refine V_iconst dX11_safe_102 ?_
            refine V_goto (tgt := 107) dX11_safe_103 rfl ?_
            refine V_is9 dX11_safe_107 (by decide) rfl ?_
            refine V_il9 dX11_safe_109 ?_
            refine V_if_eq (tgt := 134) dX11_safe_111 rfl (by unfold ri; decide) (fun b111 => by exfalso; revert b111; decide) (fun b111 => ?_)
            refine V_al0n dX11_safe_114 ?_
            refine V_il1n dX11_safe_115 ?_
            refine V_il2n dX11_safe_116 ?_
            refine V_il3n dX11_safe_117 ?_
            refine V_il7 dX11_safe_118 ?_
            refine V_callV (as := [_, _, _, _]) ml_X11_290 im_X11_isSafe se_X11_isSafe kk0 (by decide) (by decide) dX11_safe_120 rfl rfl (by decide) (by decide) (Nat.le_of_ble_eq_true rfl) (by decide) (by decide) rfl (hsf f76 g76 q1 q2 q3) ?_
            rintro r120 ρ120 f120 g120 ⟨rfl, s120_0, p1, p2, p3⟩
            obtain rfl := s120_0.symm
            refine V_bt (tgt := 134) dX11_safe_123 rfl (fun b123 => ?_) (fun b123 => ?_)
            · refine V_inc7 dX11_safe_134 (by decide) rfl ?_
              refine V_goto (tgt := 54) dX11_safe_137 rfl ?_
              rw [b123, if_neg Bool.false_ne_true, if_neg (by omega)] at hR; exact V_weak (by repeat (first | exact wk_n | refine wk_c (Or.inr rfl) ?_ | refine wk_c (Or.inl rfl) ?_)) (nx x X1 X2 hX _ _ p1 p2 (hK.tr (q3.tr p3)) hR)
            · refine V_il7 dX11_safe_126 ?_
              refine V_is5 dX11_safe_128 (by decide) rfl ?_
              refine V_il8 dX11_safe_130 ?_
              refine V_is6 dX11_safe_132 (by decide) rfl ?_
              refine V_inc7 dX11_safe_134 (by decide) rfl ?_
              refine V_goto (tgt := 54) dX11_safe_137 rfl ?_
              (have hS9 : S ≠ 99999 := by (intro z; rw [if_pos z] at b85; omega)); rw [b123, if_pos rfl, if_pos (by first | omega | (rw [if_neg hS9] at b99; omega))] at hR; exact V_weak (by repeat (first | exact wk_n | refine wk_c (Or.inr rfl) ?_ | refine wk_c (Or.inl rfl) ?_)) (nx ((i : Int), S) (i : Int) _ (Or.inr ⟨by simp only; omega, by simp only; omega, rfl, if_neg hS9, by simp only; omega, by simp only; omega⟩) _ _ p1 p2 (hK.tr (q3.tr p3)) hR)
termination_by 10 - i
theorem c_safe (hW : TW T b ρ) (hC : CT T b f) {fl0 ra0 : Bool} (hG : GI T fl0 ra0 f g) (h5 : f 55 5 < 1000000) {sk : Int} {ra : Bool} (hs : f 0 5 = sk) (hsk : 0 ≤ sk ∧ sk ≤ 30) (hr : f 0 6 = bz ra) {m h fr w : Int} (rm : ri m) (rh : ri h) (rf_ : ri fr) (rw_ : ri w) :
    C_X11_safe [.ref 0, .int (iz m), .int (iz h), .int (iz fr), .int (iz w)] ρ f g (fun r ρ' f' g' => r = some (.int (iz (aSafe T ra sk m h fr w))) ∧ ρ' = ρ ∧ QW T b 1 f g f' g') := by
  have hk := hW.2.2.2.2.1
  have hρ := hW.1
  have hb := hW.2.1
  have h5' := hk.me
  refine Ct.ofV (by decide) rfl (Nat.le_of_ble_eq_true rfl) ?_
  by_cases c1 : (okM T m && okH T h) = true
  · have c2 := c1
    rw [Bool.and_eq_true] at c2
    obtain ⟨mN, rfl, hm⟩ := okM_at c2.1
    obtain ⟨hN, rfl, hh⟩ := okH_at c2.2
    have hma := hk.man hm
    have t := tat1 hk (j := 0) hm (by omega)
    simp [tcl] at t
    have hat := c_at (f := f) (g := g) hW.1 hW.2.1 hC hk (i := 1) (by omega) (k := (mN : Int)) (j := 0) (by unfold ri; omega) (by unfold ri; omega)
    rw [t] at hat
    by_cases c : (1 ≤ fr ∧ fr ≤ T 113 mN) ∧ zin w 0 1 = true
    · obtain ⟨c3, c4⟩ := c
      have ea : aSafe T ra sk (mN : Int) (hN : Int) fr w = if (sfR T ra sk mN hN fr 9 1 (-2, 99999)).1 < 0 then -2 else if w = 0 then (sfR T ra sk mN hN fr 9 1 (-2, 99999)).1 else (sfR T ra sk mN hN fr 9 1 (-2, 99999)).2 := by
        unfold aSafe
        rw [c1, c4, Int.toNat_natCast, show zin fr 1 (T 113 mN) = true by unfold zin; simpa using c3, Bool.and_true, Bool.and_true, if_pos rfl, Int.toNat_natCast]
      rw [ea]
      refine V_al0n dX11_safe_0 ?_
      refine V_il1n dX11_safe_1 ?_
      refine V_il2n dX11_safe_2 ?_
      refine V_callV (as := [_, _]) ml_X11_274 im_X11_canHold se_X11_canHold kk0 (by decide) (by decide) dX11_safe_3 rfl rfl (by decide) (by decide) (Nat.le_of_ble_eq_true rfl) (by decide) (by decide) rfl (c_canHold hW hC rm rh) ?_
      refine pq4 ?_
      refine V_bt (tgt := 36) dX11_safe_6 rfl (fun b6 => ?_) (fun b6 => ?_)
      · rw [c1] at b6; cases b6
      · refine V_il3n dX11_safe_9 ?_
        refine V_iconst dX11_safe_10 ?_
        refine V_icmp_lt (tgt := 36) dX11_safe_11 rfl rf_ (by unfold ri; omega) (fun b11 => ?_) (fun b11 => ?_)
        · exfalso; omega
        · refine V_il3n dX11_safe_14 ?_
          refine V_al0n dX11_safe_15 ?_
          refine V_getR kk0 (by decide) fl_X11_29 hW.2.2.1 dX11_safe_16 ?_
          refine V_iconst dX11_safe_19 ?_
          refine V_il1n dX11_safe_20 ?_
          refine V_iconst dX11_safe_21 ?_
          refine V_callV (as := [_, _, _]) ml_X11_176 im_X7_at se_X7_at (kb_0 hb) (by decide) (kl_0 hb) dX11_safe_22 rfl rfl (by decide) (by decide) (Nat.le_of_ble_eq_true rfl) (by decide) (by decide) rfl (hat) ?_
          refine pq4 ?_
          refine V_icmp_gt (tgt := 36) dX11_safe_25 rfl rf_ (by unfold ri; omega) (fun b25 => ?_) (fun b25 => ?_)
          · exfalso; omega
          · refine V_il4 dX11_safe_28 ?_
            refine V_callS (as := [_]) ml_X11_283 sm_X11_isPair dX11_safe_30 rfl rfl (by decide) (by decide) (Nat.le_of_ble_eq_true rfl) (by decide) (by decide) rfl (c_isPair rw_) ?_
            refine pq4 ?_
            refine V_bf (tgt := 38) dX11_safe_33 rfl (fun b33 => ?_) (fun b33 => ?_)
            · refine V_al0n dX11_safe_38 ?_
              refine V_il1n dX11_safe_39 ?_
              refine V_callV (as := [_]) ml_X11_186 im_X11_makeReady se_X11_makeReady kk0 (by decide) (by decide) dX11_safe_40 rfl rfl (by decide) (by decide) (Nat.le_of_ble_eq_true rfl) (by decide) (by decide) rfl (c_makeReady hW hC hG h5 hm hs hsk hr) ?_
              rintro r40 ρ40 f40 g40 ⟨rfl, s40_0, s40_1, q1⟩
              obtain rfl := s40_0.symm
              obtain rfl := s40_1.symm
              refine V_bipush dX11_safe_43 rfl ?_
              refine V_is5 dX11_safe_45 (by decide) rfl ?_
              refine V_bipush dX11_safe_47 rfl ?_
              refine V_is6 dX11_safe_49 (by decide) rfl ?_
              refine V_iconst dX11_safe_51 ?_
              refine V_is7 dX11_safe_52 (by decide) rfl ?_
              have hC2 : CT T b f40 := hC.cg hb (fun a k h1 h2 => q1.1 a k (by omega) (by omega))
              exact V_weak (by repeat (first | exact wk_n | refine wk_c (Or.inr rfl) ?_ | refine wk_c (Or.inl rfl) ?_)) (w_csafe hW hm hh hsk c3 rw_ q1.ge (fun f' g' a1 a2 a3 => ⟨rfl, rfl, ⟨false, ra, a2⟩, q1.aw.tr a3.aw, (q1.ag.tr (AG.sm (fun k => a3.1 55 k (by omega) (by omega)))).wk (by omega)⟩) 1 (by omega) (-2, 99999) (Or.inl ⟨rfl, rfl, rfl, rfl⟩) f40 g hC2 q1.2.1 WLk.rf rfl)
            · rw [c4] at b33; cases b33
    · have ea : aSafe T ra sk (mN : Int) (hN : Int) fr w = -1 := by
        unfold aSafe
        rw [if_neg (fun z => c ?_)]
        simp only [Bool.and_eq_true, Int.toNat_natCast] at z
        obtain ⟨⟨z1, z3⟩, z4⟩ := z
        exact ⟨by unfold zin at z3; simpa using z3, z4⟩
      rw [ea]
      refine V_al0n dX11_safe_0 ?_
      refine V_il1n dX11_safe_1 ?_
      refine V_il2n dX11_safe_2 ?_
      refine V_callV (as := [_, _]) ml_X11_274 im_X11_canHold se_X11_canHold kk0 (by decide) (by decide) dX11_safe_3 rfl rfl (by decide) (by decide) (Nat.le_of_ble_eq_true rfl) (by decide) (by decide) rfl (c_canHold hW hC rm rh) ?_
      refine pq4 ?_
      refine V_bt (tgt := 36) dX11_safe_6 rfl (fun b6 => ?_) (fun b6 => ?_)
      · refine V_iconst dX11_safe_36 ?_
        exact V_ireturn rfl ⟨rfl, rfl, QW.rf hG (by omega)⟩ dX11_safe_37
      · refine V_il3n dX11_safe_9 ?_
        refine V_iconst dX11_safe_10 ?_
        refine V_icmp_lt (tgt := 36) dX11_safe_11 rfl rf_ (by unfold ri; omega) (fun b11 => ?_) (fun b11 => ?_)
        · refine V_iconst dX11_safe_36 ?_
          exact V_ireturn rfl ⟨rfl, rfl, QW.rf hG (by omega)⟩ dX11_safe_37
        · refine V_il3n dX11_safe_14 ?_
          refine V_al0n dX11_safe_15 ?_
          refine V_getR kk0 (by decide) fl_X11_29 hW.2.2.1 dX11_safe_16 ?_
          refine V_iconst dX11_safe_19 ?_
          refine V_il1n dX11_safe_20 ?_
          refine V_iconst dX11_safe_21 ?_
          refine V_callV (as := [_, _, _]) ml_X11_176 im_X7_at se_X7_at (kb_0 hb) (by decide) (kl_0 hb) dX11_safe_22 rfl rfl (by decide) (by decide) (Nat.le_of_ble_eq_true rfl) (by decide) (by decide) rfl (hat) ?_
          refine pq4 ?_
          refine V_icmp_gt (tgt := 36) dX11_safe_25 rfl rf_ (by unfold ri; omega) (fun b25 => ?_) (fun b25 => ?_)
          · refine V_iconst dX11_safe_36 ?_
            exact V_ireturn rfl ⟨rfl, rfl, QW.rf hG (by omega)⟩ dX11_safe_37
          · refine V_il4 dX11_safe_28 ?_
            refine V_callS (as := [_]) ml_X11_283 sm_X11_isPair dX11_safe_30 rfl rfl (by decide) (by decide) (Nat.le_of_ble_eq_true rfl) (by decide) (by decide) rfl (c_isPair rw_) ?_
            refine pq4 ?_
            refine V_bf (tgt := 38) dX11_safe_33 rfl (fun b33 => ?_) (fun b33 => ?_)
            · exact absurd ⟨by omega, b33⟩ c
            · refine V_iconst dX11_safe_36 ?_
              exact V_ireturn rfl ⟨rfl, rfl, QW.rf hG (by omega)⟩ dX11_safe_37
  · have ea : aSafe T ra sk m h fr w = -1 := by
      unfold aSafe
      rw [if_neg (fun z => c1 ?_)]
      simp only [Bool.and_eq_true] at z ⊢
      exact z.1.1
    rw [ea]
    refine V_al0n dX11_safe_0 ?_
    refine V_il1n dX11_safe_1 ?_
    refine V_il2n dX11_safe_2 ?_
    refine V_callV (as := [_, _]) ml_X11_274 im_X11_canHold se_X11_canHold kk0 (by decide) (by decide) dX11_safe_3 rfl rfl (by decide) (by decide) (Nat.le_of_ble_eq_true rfl) (by decide) (by decide) rfl (c_canHold hW hC rm rh) ?_
    refine pq4 ?_
    refine V_bt (tgt := 36) dX11_safe_6 rfl (fun b6 => ?_) (fun b6 => ?_)
    · refine V_iconst dX11_safe_36 ?_
      exact V_ireturn rfl ⟨rfl, rfl, QW.rf hG (by omega)⟩ dX11_safe_37
    · exact absurd b6 c1
end CSAFE

