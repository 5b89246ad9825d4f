section CPARSE
variable {ρ : RT} {g : JT} {b : Nat}
/-! what a text begins with -/
def lc1 (b i : Nat) (f : IT) : IT := fun a k => if (a = b + 20 ∨ a = b + 21) ∧ k < i then 0 else f a k
def lc2 (b i : Nat) (f : IT) : IT := fun a k => if a = b + 24 ∧ k < i then 0 else f a k
def lcF (b : Nat) (f : IT) : IT := lc2 b 8 (lc1 b 8 (u2 (u2 f (b + 17) 2 0) (b + 17) 8 0))
theorem lc1_0 {f : IT} : lc1 b 0 f = f := by funext a k; unfold lc1; rw [if_neg (by omega)]
theorem lc2_0 {f : IT} : lc2 b 0 f = f := by funext a k; unfold lc2; rw [if_neg (by omega)]
theorem w_lc40 {Q : QT} {f : IT} (hρ : Fx ρ) (hb : b = 5 ∨ b = 30) (hQ : Q none ρ (lc2 b 8 f) g) (i : Nat) (hi : i ≤ 8) : V_X1_clear Q 40 [.ref (b + 17), .int (iz (i : Int))] [] ρ (lc2 b i f) g := by
  refine V_il1n dX1_clear_40 ?_
  refine V_bipush dX1_clear_41 rfl ?_
  refine V_icmp_ge (tgt := 59) dX1_clear_43 rfl (by first | assumption | (unfold ri at *; omega)) (by first | assumption | (unfold ri at *; omega)) (fun b43 => ?_) (fun b43 => ?_)
  · exact V_return rfl (by rw [show i = 8 by omega]; exact hQ) dX1_clear_59
  · refine V_al0n dX1_clear_46 ?_
    refine V_getR (kb_17 hb) (kl_17 hb) fl_X1_35 (fb_17_7 hρ hb) dX1_clear_47 ?_
    refine V_il1n dX1_clear_50 ?_
    refine V_iconst dX1_clear_51 ?_
    refine V_zast (k := i) (kb_24 hb) (kl_24 hb) (by first | rfl | omega) (by omega) (by first | decide | assumption | omega) (by first | exact Or.inl rfl | exact Or.inr rfl | (unfold bz; split <;> simp)) dX1_clear_52 ?_
    refine V_inc1 dX1_clear_53 (by decide) rfl ?_
    refine V_goto (tgt := 40) dX1_clear_56 rfl ?_
    have e : u2 (lc2 b i f) (b + 24) i 0 = lc2 b (i + 1) f := by
      funext a k
      unfold u2 lc2
      by_cases c : a = b + 24 ∧ k = i
      · rw [if_pos c, if_pos (by omega)]
      · rw [if_neg c]
        by_cases c2 : a = b + 24 ∧ k < i
        · rw [if_pos c2, if_pos (by omega)]
        · rw [if_neg c2, if_neg (by omega)]
    rw [e]
    exact w_lc40 hρ hb hQ (i + 1) (by omega)
termination_by 8 - i
theorem w_lc12 {Q : QT} {f : IT} (hρ : Fx ρ) (hb : b = 5 ∨ b = 30) (hQ : Q none ρ (lc2 b 8 (lc1 b 8 f)) g) (i : Nat) (hi : i ≤ 8) : V_X1_clear Q 12 [.ref (b + 17), .int (iz (i : Int))] [] ρ (lc1 b i f) g := by
  refine V_il1n dX1_clear_12 ?_
  refine V_bipush dX1_clear_13 rfl ?_
  refine V_icmp_ge (tgt := 38) dX1_clear_15 rfl (by first | assumption | (unfold ri at *; omega)) (by first | assumption | (unfold ri at *; omega)) (fun b15 => ?_) (fun b15 => ?_)
  · refine V_iconst dX1_clear_38 ?_
    refine V_is1n dX1_clear_39 (by decide) rfl ?_
    have e8 : lc1 b i f = lc1 b 8 f := by rw [show i = 8 by omega]
    rw [e8]
    have := w_lc40 (f := lc1 b 8 f) (g := g) hρ hb hQ 0 (by omega)
    rw [lc2_0] at this
    exact this
  · refine V_al0n dX1_clear_18 ?_
    refine V_getR (kb_17 hb) (kl_17 hb) fl_X1_22 (fb_17_3 hρ hb) dX1_clear_19 ?_
    refine V_il1n dX1_clear_22 ?_
    refine V_iconst dX1_clear_23 ?_
    refine V_iast (k := i) (kb_20 hb) (kl_20 hb) (by first | rfl | omega) (by omega) (by first | decide | assumption | omega) dX1_clear_24 ?_
    refine V_al0n dX1_clear_25 ?_
    refine V_getR (kb_17 hb) (kl_17 hb) fl_X1_25 (fb_17_4 hρ hb) dX1_clear_26 ?_
    refine V_il1n dX1_clear_29 ?_
    refine V_iconst dX1_clear_30 ?_
    refine V_iast (k := i) (kb_21 hb) (kl_21 hb) (by first | rfl | omega) (by omega) (by first | decide | assumption | omega) dX1_clear_31 ?_
    refine V_inc1 dX1_clear_32 (by decide) rfl ?_
    refine V_goto (tgt := 12) dX1_clear_35 rfl ?_
    have e : u2 (u2 (lc1 b i f) (b + 20) i 0) (b + 21) i 0 = lc1 b (i + 1) f := by
      funext a k
      unfold u2 lc1
      by_cases c : a = b + 21 ∧ k = i
      · rw [if_pos c, if_pos (by omega)]
      · rw [if_neg c]
        by_cases c1 : a = b + 20 ∧ k = i
        · rw [if_pos c1, if_pos (by omega)]
        · rw [if_neg c1]
          by_cases c2 : (a = b + 20 ∨ a = b + 21) ∧ k < i
          · rw [if_pos c2, if_pos (by omega)]
          · rw [if_neg c2, if_neg (by omega)]
    rw [e]
    exact w_lc12 hρ hb hQ (i + 1) (by omega)
termination_by 8 - i
theorem c_lclear {f : IT} (hρ : Fx ρ) (hb : b = 5 ∨ b = 30) : C_X1_clear [.ref (b + 17)] ρ f g (fun r ρ' f' g' => r = none ∧ ρ' = ρ ∧ f' = lcF b f ∧ g' = g) := by
  refine Ct.ofV (by decide) rfl (Nat.le_of_ble_eq_true rfl) ?_
  refine V_al0n dX1_clear_0 ?_
  refine V_iconst dX1_clear_1 ?_
  refine V_putI (kb_17 hb) (kl_17 hb) fl_X1_18 rfl dX1_clear_2 ?_
  refine V_al0n dX1_clear_5 ?_
  refine V_iconst dX1_clear_6 ?_
  refine V_putI (kb_17 hb) (kl_17 hb) fl_X1_39 rfl dX1_clear_7 ?_
  refine V_iconst dX1_clear_10 ?_
  refine V_is1n dX1_clear_11 (by decide) rfl ?_
  have := w_lc12 (Q := fun r ρ' f' g' => r = none ∧ ρ' = ρ ∧ f' = lcF b f ∧ g' = g) (f := u2 (u2 f (b + 17) 2 0) (b + 17) 8 0) (g := g) hρ hb ⟨rfl, rfl, rfl, rfl⟩ 0 (by omega)
  rw [lc1_0] at this
  exact this
def tsF (b i : Nat) (f : IT) : IT := fun a k => if k = 4 ∧ b + 2 ≤ a ∧ a < b + 2 + 3 * i ∧ (a - b - 2) % 3 = 0 then 0 else f a k
theorem tsF_0 {f : IT} : tsF b 0 f = f := by funext a k; unfold tsF; rw [if_neg (by omega)]
def clF (b : Nat) (f : IT) : IT := u2 (u2 (u2 (lcF b (tsF b 5 f)) b 2 (-1)) b 3 (-1)) b 4 0
theorem w_tc2 {Q : QT} {f : IT} (hρ : Fx ρ) (hb : b = 5 ∨ b = 30) (hQ : Q none ρ (clF b f) g) (i : Nat) (hi : i ≤ 5) : V_X7_clear Q 2 [.ref b, .int (iz (i : Int))] [] ρ (tsF b i f) g := by
  by_cases e5 : i = 5
  · subst e5
    refine V_il1n dX7_clear_2 ?_
    refine V_al0n dX7_clear_3 ?_
    refine V_getR (kb_0 hb) (kl_0 hb) fl_X7_14 (fb_0_0 hρ hb) dX7_clear_4 ?_
    refine V_alen (kb_1 hb) (by decide) (kl_1 hb) dX7_clear_7 ?_
    refine V_icmp_ge (tgt := 27) dX7_clear_8 rfl (by unfold ri; omega) (by unfold ri; omega) (fun b8 => ?_) (fun b8 => ?_)
    · refine V_al0n dX7_clear_27 ?_
      refine V_getR (kb_0 hb) (kl_0 hb) fl_X7_23 (fb_0_1 hρ hb) dX7_clear_28 ?_
      refine V_callV (as := []) ml_X7_40 im_X1_clear se_X1_clear (kb_17 hb) (by decide) (kl_17 hb) dX7_clear_31 rfl rfl (by decide) (by decide) (Nat.le_of_ble_eq_true rfl) (by decide) (by decide) rfl (c_lclear hρ hb) ?_
      refine pq4 ?_
      refine V_al0n dX7_clear_34 ?_
      refine V_iconst dX7_clear_35 ?_
      refine V_putI (kb_0 hb) (kl_0 hb) fl_X7_27 rfl dX7_clear_36 ?_
      refine V_al0n dX7_clear_39 ?_
      refine V_iconst dX7_clear_40 ?_
      refine V_putI (kb_0 hb) (kl_0 hb) fl_X7_31 rfl dX7_clear_41 ?_
      refine V_al0n dX7_clear_44 ?_
      refine V_iconst dX7_clear_45 ?_
      refine V_putI (kb_0 hb) (kl_0 hb) fl_X7_34 rfl dX7_clear_46 ?_
      exact V_return rfl hQ dX7_clear_49
    · exfalso; omega
  · have hkd := kdR (i := i) hb (by omega)
    have hfx := fxR (i := i) hρ hb (by omega)
    have e : u2 (tsF b i f) (b + 2 + 3 * i) 4 0 = tsF b (i + 1) f := by
      funext a k
      unfold u2 tsF
      by_cases c : a = b + 2 + 3 * i ∧ k = 4
      · rw [if_pos c, if_pos (by omega)]
      · rw [if_neg c]
        by_cases c2 : k = 4 ∧ b + 2 ≤ a ∧ a < b + 2 + 3 * i ∧ (a - b - 2) % 3 = 0
        · rw [if_pos c2, if_pos (by omega)]
        · rw [if_neg c2, if_neg (by omega)]
    refine V_il1n dX7_clear_2 ?_
    refine V_al0n dX7_clear_3 ?_
    refine V_getR (kb_0 hb) (kl_0 hb) fl_X7_14 (fb_0_0 hρ hb) dX7_clear_4 ?_
    refine V_alen (kb_1 hb) (by decide) (kl_1 hb) dX7_clear_7 ?_
    refine V_icmp_ge (tgt := 27) dX7_clear_8 rfl (by unfold ri; omega) (by unfold ri; omega) (fun b8 => ?_) (fun b8 => ?_)
    · exfalso; omega
    · refine V_al0n dX7_clear_11 ?_
      refine V_getR (kb_0 hb) (kl_0 hb) fl_X7_14 (fb_0_0 hρ hb) dX7_clear_12 ?_
      refine V_il1n dX7_clear_15 ?_
      refine V_aald (k := i) (kb_1 hb) (by decide) (kl_1 hb) (by first | rfl | omega) (by omega) (by decide) hfx.1 dX7_clear_16 ?_
      refine V_iconst dX7_clear_17 ?_
      refine V_putI hkd.1 (kdlt hkd.1 (by decide)) fl_X7_37 rfl dX7_clear_18 ?_
      refine V_inc1 dX7_clear_21 (by decide) rfl ?_
      refine V_goto (tgt := 2) dX7_clear_24 rfl ?_
      rw [e]
      exact w_tc2 hρ hb hQ (i + 1) (by omega)
termination_by 5 - i
theorem c_tclear {f : IT} (hρ : Fx ρ) (hb : b = 5 ∨ b = 30) : C_X7_clear [.ref b] ρ f g (fun r ρ' f' g' => r = none ∧ ρ' = ρ ∧ f' = clF b f ∧ g' = g) := by
  refine Ct.ofV (by decide) rfl (Nat.le_of_ble_eq_true rfl) ?_
  refine V_iconst dX7_clear_0 ?_
  refine V_is1n dX7_clear_1 (by decide) rfl ?_
  have := w_tc2 (Q := fun r ρ' f' g' => r = none ∧ ρ' = ρ ∧ f' = clF b f ∧ g' = g) (f := f) (g := g) hρ hb ⟨rfl, rfl, rfl, rfl⟩ 0 (by omega)
  rw [tsF_0] at this
  exact this
theorem c_tkbegin {f : IT} (hρ : Fx ρ) {n : Int} (hn : 0 ≤ n ∧ n ≤ 700) : C_X6_begin [.ref 4, .int (iz n)] ρ f g (fun r ρ' f' g' => r = none ∧ ρ' = ρ ∧ f' = u2 (u2 f 4 2 0) 4 1 n ∧ g' = g) := by
  refine Ct.ofV (by decide) rfl (Nat.le_of_ble_eq_true rfl) ?_
  refine V_al0n dX6_begin_0 ?_
  refine V_iconst dX6_begin_1 ?_
  refine V_putI kk4 (by decide) fl_X6_15 rfl dX6_begin_2 ?_
  refine V_al0n dX6_begin_5 ?_
  refine V_il1n dX6_begin_6 ?_
  refine V_al0n dX6_begin_7 ?_
  refine V_getR kk4 (by decide) fl_X6_30 (fx_4_0 hρ) dX6_begin_8 ?_
  refine V_alen kk1 (by decide) (by decide) dX6_begin_11 ?_
  refine V_mmin ml_X6_34 sm_J9_min_7cf53 dX6_begin_12 (by unfold ri; omega) (by unfold ri; omega) (by decide) (Nat.le_of_ble_eq_true rfl) (by decide) (by decide) ?_
  refine V_putI kk4 (by decide) fl_X6_9 rfl dX6_begin_15 ?_
  exact V_return rfl ⟨rfl, rfl, by rw [if_neg (by omega)], rfl⟩ dX6_begin_18
/-! lines until the text ends -/
theorem CUR.fin {f φ : IT} (h : CUR f φ) (hK : PK φ) : f 4 3 = 20 ↔ φ 104 8 = 0 := by
  obtain ⟨-, -, v0, v1, v2, v3, v4, v5, v6⟩ := h
  obtain ⟨-, k8, k9, k1, -, k5⟩ := hK
  unfold ckK cwK at v1
  unfold csK at v4
  rcases (show φ 104 8 = 0 ∨ φ 104 8 = 1 ∨ φ 104 8 = 2 ∨ φ 104 8 = 3 ∨ φ 104 8 = 4 ∨ φ 104 8 = 5 ∨ φ 104 8 = 6 by omega) with e | e | e | e | e | e | e
  · have := v0 e; omega
  · have := (v1 e).1; have := k1 e; (repeat' split at *) <;> omega
  · have := v2 e; omega
  · have := v3 e; omega
  · have := (v4 e).1; (repeat' split at *) <;> omega
  · have := v5 e; have := k5 e; omega
  · have := v6 e; omega
def PSR (b : Nat) (R : Option Nat × IT) (f f' : IT) : Prop := (∀ a k, a ≠ 2 → a ≠ 3 → a ≠ 4 → ¬ (b ≤ a ∧ a ≤ b + 24 ∧ ¬ (b + 2 ≤ a ∧ a ≤ b + 14 ∧ (a - b) % 3 = 2 ∧ k ≤ 1)) → f' a k = f a k) ∧ FLm f' R.2 ∧ ∀ l : Nat, R.1 = some l → CT (rdT R.2) b f' ∧ LoS b f' R.2 ∧ f' b 4 = (l : Int) ∧ l ≤ 400 ∧ Good R.2 ∧ RD R.2
theorem w_parse {Q : QT} {f0 : IT} (hρ : Fx ρ) (hb : b = 5 ∨ b = 30) {n : Int} {R : Option Nat × IT} (hQ : ∀ f', PSR b R f0 f' → Q (some (.int (iz (bz R.1.isSome)))) ρ f' g) (k l : Nat) (f φ : IT) (hp : PRE f φ) (hC : CT (rdT φ) b f) (h2 : f (b + 17) 2 = φ 104 25) (hL : LoS b f φ) (h4 : f b 4 = (l : Int)) (hG : Good φ) (hD : RD φ) (hfr : ∀ a k, a ≠ 2 → a ≠ 3 → a ≠ 4 → ¬ (b ≤ a ∧ a ≤ b + 24 ∧ ¬ (b + 2 ≤ a ∧ a ≤ b + 14 ∧ (a - b) % 3 = 2 ∧ k ≤ 1)) → f a k = f0 a k) (hk : mu φ < k) (hl : 2 * l + mu φ ≤ 701) (hR : R = lnsR k l φ) :
    V_X2_parse Q 24 [.ref 2, .ref b, .int (iz n), .int (iz (l : Int))] [] ρ f g := by
  obtain ⟨m, rfl⟩ : ∃ m, k = m + 1 := ⟨k - 1, by omega⟩
  rw [lnsR] at hR
  have go : ∀ f1 : IT, KT4 f f1 → CUR f1 φ → V_X2_parse Q 38 [.ref 2, .ref b, .int (iz n), .int (iz (l : Int))] [] ρ f1 g := by
    intro f1 k1 c1
    have hfin := c1.fin hG.1
    obtain ⟨q1, -, -, -⟩ := c1.rr hG.1
    have hC1 : CT (rdT φ) b f1 := hC.cg2 (fun _ _ _ => rfl) (fun _ _ _ => rfl) (fun a k z1 z2 => k1 a k (by omega))
    have hL1 : LoS b f1 φ := hL.cg (k1 _ _ (by omega)) (k1 _ _ (by omega)) (fun _ _ _ => rfl)
    have hfr1 : ∀ a k, a ≠ 2 → a ≠ 3 → a ≠ 4 → ¬ (b ≤ a ∧ a ≤ b + 24 ∧ ¬ (b + 2 ≤ a ∧ a ≤ b + 14 ∧ (a - b) % 3 = 2 ∧ k ≤ 1)) → f1 a k = f0 a k := fun a k z1 z2 z3 z4 => (k1 a k (by omega)).trans (hfr a k z1 z2 z3 z4)
    have h41 : f1 b 4 = (l : Int) := (k1 _ _ (by omega)).trans h4
    by_cases e : φ 104 8 = 0
    · rw [if_pos e] at hR
      subst hR
      have e20 := hfin.mpr e
      refine V_al0n dX2_parse_38 ?_
      refine V_getR kk2 (by decide) fl_X2_42 (fx_2_0 hρ) dX2_parse_39 ?_
      refine V_getI kk4 (by decide) fl_X2_58 rfl dX2_parse_42 ?_
      refine V_bipush dX2_parse_45 rfl ?_
      refine V_icmp_ne (tgt := 52) dX2_parse_47 rfl (by unfold ri; omega) (by unfold ri; omega) (fun b47 => ?_) (fun b47 => ?_)
      · exfalso; omega
      · refine V_iconst dX2_parse_50 ?_
        exact V_zreturn rfl (by first | exact Or.inl rfl | exact Or.inr rfl | (unfold bz; split <;> simp)) (hQ f1 ⟨hfr1, c1.2.1.2.2, fun l' hl' => by injection hl' with hl'; subst hl'; exact ⟨hC1, hL1, h41, by omega, hG, hD⟩⟩) dX2_parse_51
    · rw [if_neg e] at hR
      have n20 : f1 4 3 ≠ 20 := fun z => e (hfin.mp z)
      have hok := lnF_ok hG hD
      have hrl := c_readLine (g := g) hρ hb hC1 ((k1 _ _ (by omega)).trans h2) hL1 c1 hG hD
      refine V_al0n dX2_parse_38 ?_
      refine V_getR kk2 (by decide) fl_X2_42 (fx_2_0 hρ) dX2_parse_39 ?_
      refine V_getI kk4 (by decide) fl_X2_58 rfl dX2_parse_42 ?_
      refine V_bipush dX2_parse_45 rfl ?_
      refine V_icmp_ne (tgt := 52) dX2_parse_47 rfl (by unfold ri; omega) (by unfold ri; omega) (fun b47 => ?_) (fun b47 => ?_)
      · refine V_al0n dX2_parse_52 ?_
        refine V_al1n dX2_parse_53 ?_
        refine V_callV (as := [_]) ml_X2_61 im_X2_readLine se_X2_readLine kk2 (by decide) (by decide) dX2_parse_54 rfl rfl (by decide) (by decide) (Nat.le_of_ble_eq_true rfl) (by decide) (by decide) rfl (hrl) ?_
        rintro r54 ρ54 f54 g54 ⟨rfl, s54_0, y1, s54_1⟩
        obtain rfl := s54_0.symm
        obtain rfl := s54_1.symm
        refine V_bf (tgt := 62) dX2_parse_57 rfl (fun b57 => ?_) (fun b57 => ?_)
        · refine V_al1n dX2_parse_62 ?_
          refine V_dup dX2_parse_63 rfl ?_
          refine V_getI (kb_0 hb) (kl_0 hb) fl_X2_65 (y1.1.2.2.1.trans h41) dX2_parse_64 ?_
          refine V_iconst dX2_parse_67 ?_
          refine V_iadd dX2_parse_68 ?_
          refine V_putI (kb_0 hb) (kl_0 hb) fl_X2_65 rfl dX2_parse_69 ?_
          refine V_inc3 dX2_parse_72 (by decide) rfl ?_
          refine V_goto (tgt := 24) dX2_parse_75 rfl ?_
          rw [if_pos b57] at hR
          have hm := lnF_mu hG hD b57
          obtain ⟨y2, y3⟩ := y1.1.2.2.2.1 b57
          obtain ⟨y4, y5⟩ := y1.2 b57
          exact w_parse hρ hb hQ m (l + 1) _ (lnF φ).2 (y2.cg (fun k => u2_o (by omega)) (fun k => u2_o (by omega)) rfl (fun _ _ _ => rfl)) (y3.cg2 (fun _ _ _ => rfl) (fun _ _ _ => rfl) (fun a k z1 z2 => u2_o (by omega))) ((u2_o (by omega)).trans y4) (y5.cg (u2_o (by omega)) (u2_o (by omega)) (fun _ _ _ => rfl)) (by rw [u2_s]; omega) hok.1 (hok.2 b57) (fun a k z1 z2 z3 z4 => by rw [u2_o (by omega)]; exact (y1.1.1 a k z1 z2 z3 z4).trans (hfr1 a k z1 z2 z3 z4)) (by omega) (by omega) hR
        · refine V_iconst dX2_parse_60 ?_
          exact V_zreturn rfl (by first | exact Or.inl rfl | exact Or.inr rfl | (unfold bz; split <;> simp)) (by rw [if_neg (by rw [b57]; exact Bool.false_ne_true)] at hR; subst hR; exact hQ f54 ⟨fun a k z1 z2 z3 z4 => (y1.1.1 a k z1 z2 z3 z4).trans (hfr1 a k z1 z2 z3 z4), y1.1.2.2.2.2 b57, (fun l' hl' => by (cases hl'))⟩) dX2_parse_61
      · exfalso; omega
  refine V_il3n dX2_parse_24 ?_
  refine V_sipush dX2_parse_25 rfl ?_
  refine V_icmp_gt (tgt := 78) dX2_parse_28 rfl (by unfold ri; omega) (by unfold ri; omega) (fun b28 => ?_) (fun b28 => ?_)
  · exfalso; omega
  · refine V_al0n dX2_parse_31 ?_
    refine V_getR kk2 (by decide) fl_X2_42 (fx_2_0 hρ) dX2_parse_32 ?_
    refine V_callV (as := []) ml_X2_55 im_X6_next se_X6_next kk4 (by decide) (by decide) dX2_parse_35 rfl rfl (by decide) (by decide) (Nat.le_of_ble_eq_true rfl) (by decide) (by decide) rfl (c_nextP hρ hp) ?_
    rintro r35 ρ35 f35 g35 ⟨rfl, s35_0, y1, y2, s35_1⟩
    obtain rfl := s35_0.symm
    obtain rfl := s35_1.symm
    exact go _ y1 y2
termination_by k
theorem PRE.start {f φ : IT} (hT : CTp (φ 105) (φ 104 6).toNat f) (h7 : φ 104 7 = 0) (h2 : f 4 2 = 0) (h6 : f 2 6 = φ 104 4 ∧ f 2 7 = φ 104 5) : PRE f (tkF φ) := by
  have r6 : tkF φ 104 6 = φ 104 6 := tkF_o (by omega)
  have r5 : tkF φ 105 = φ 105 := tkF_r (by omega)
  unfold PRE
  rw [r5, r6]
  refine ⟨hT, 0, φ 104 9, h2, by omega, ?_, ?_, ?_, ?_, ?_, ?_⟩
  · unfold tkF st4; rw [u2_o (by omega), u2_o (by omega), u2_o (by omega), u2_s, h7]; rfl
  · unfold tkF st4; rw [u2_o (by omega), u2_o (by omega), u2_s, h7]; rfl
  · unfold tkF st4; rw [u2_o (by omega), u2_s, h7]; rfl
  · unfold tkF st4; rw [u2_s, h7]; rfl
  · rw [tkF_o (by omega)]; exact h6.1
  · rw [tkF_o (by omega)]; exact h6.2
/-- nothing told yet -/
theorem CT.zero {T : TT} {f : IT} (h1 : ∀ i, i < 5 → f (b + 2 + 3 * i) 4 = 0 ∧ f (b + 2 + 3 * i) 0 = (mxK i : Int) ∧ f (b + 2 + 3 * i) 1 = (wdK i : Int)) (h2 : ∀ i, i < 6 → T 104 (12 + i) = 0) (h3 : ∀ w, w < 8 → T 127 w = 0) (h4 : f (b + 17) 8 = 0) (h5 : ∀ w, w < 8 → f (b + 20) w = 0 ∧ f (b + 21) w = 0 ∧ f (b + 24) w = 0) : CT T b f := by
  refine ⟨fun i hi => ?_, fun i k hi hk => ?_, fun i k j hi hk hj => ?_, ?_, fun w hw => ⟨fun z => ?_, fun z => ⟨(h5 w hw).1, (h5 w hw).2.1⟩⟩, fun i hi => ?_, fun n hn => ?_⟩
  · rw [h2 i (by omega)]; exact h1 i hi
  · rw [h2 i (by omega)] at hk; exfalso; omega
  · rw [h2 i (by omega)] at hk; exfalso; omega
  · rw [h4]; exact (h2 5 (by omega)).symm
  · rw [h3 w hw] at z; exfalso; omega
  · have := h2 5 (by omega); exfalso; simp only [Nat.reduceAdd] at this; omega
  · rw [(h5 n hn).2.2]
    have e : us T n = false := by
      unfold us
      have := h2 5 (by omega)
      simp only [Nat.reduceAdd] at this
      rw [this]
      simp
    rw [e]; rfl
theorem c_parse {f φ : IT} (hρ : Fx ρ) (hb : b = 5 ∨ b = 30) (hRw : ∀ i, i < 5 → f (b + 2 + 3 * i) 0 = (mxK i : Int) ∧ f (b + 2 + 3 * i) 1 = (wdK i : Int)) (hK : TxK φ) {n : Int} (hn : 0 ≤ n ∧ n ≤ φ 104 1) (htp : ∀ k : Nat, (k : Int) < n → f 1 k = φ 105 k) :
    C_X2_parse [.ref 2, .ref b, .int (iz n)] ρ f g (fun r ρ' f' g' => r = some (.int (iz (bz (txR n φ).1.isSome))) ∧ ρ' = ρ ∧ PSR b (txR n φ) f f' ∧ g' = g) := by
  have k1 := hK.1
  have hok := tx00_ok hK hn
  have o : ∀ a k, a ≠ 4 → ¬ (b ≤ a ∧ a ≤ b + 24 ∧ ¬ (b + 2 ≤ a ∧ a ≤ b + 14 ∧ (a - b) % 3 = 2 ∧ k ≤ 1)) → clF b (u2 (u2 f 4 2 0) 4 1 n) a k = f a k := fun a k z1 z2 => by
    unfold clF lcF lc2 lc1 tsF
    rw [u2_o (by omega), u2_o (by omega), u2_o (by omega), if_neg (by omega), if_neg (by omega), u2_o (by omega), u2_o (by omega), if_neg (by omega), u2_o (by omega), u2_o (by omega)]
  have o4 : ∀ k, clF b (u2 (u2 f 4 2 0) 4 1 n) 4 k = u2 (u2 f 4 2 0) 4 1 n 4 k := fun k => by
    unfold clF lcF lc2 lc1 tsF
    rw [u2_o (by omega), u2_o (by omega), u2_o (by omega), if_neg (by omega), if_neg (by omega), u2_o (by omega), u2_o (by omega), if_neg (by omega)]
  have oR : ∀ i k, i < 5 → clF b (u2 (u2 f 4 2 0) 4 1 n) (b + 2 + 3 * i) k = if k = 4 then 0 else f (b + 2 + 3 * i) k := fun i k hi => by
    unfold clF lcF lc2 lc1 tsF
    rw [u2_o (by omega), u2_o (by omega), u2_o (by omega), if_neg (by omega), if_neg (by omega), u2_o (by omega), u2_o (by omega)]
    by_cases z : k = 4
    · rw [if_pos (by omega), if_pos z]
    · rw [if_neg (by omega), if_neg z, u2_o (by omega), u2_o (by omega)]
  have o8 : clF b (u2 (u2 f 4 2 0) 4 1 n) (b + 17) 8 = 0 := by
    unfold clF lcF lc2 lc1
    rw [u2_o (by omega), u2_o (by omega), u2_o (by omega), if_neg (by omega), if_neg (by omega), u2_s]
  have o2 : clF b (u2 (u2 f 4 2 0) 4 1 n) (b + 17) 2 = 0 := by
    unfold clF lcF lc2 lc1
    rw [u2_o (by omega), u2_o (by omega), u2_o (by omega), if_neg (by omega), if_neg (by omega), u2_o (by omega), u2_s]
  have oL : ∀ w, w < 8 → clF b (u2 (u2 f 4 2 0) 4 1 n) (b + 20) w = 0 ∧ clF b (u2 (u2 f 4 2 0) 4 1 n) (b + 21) w = 0 ∧ clF b (u2 (u2 f 4 2 0) 4 1 n) (b + 24) w = 0 := fun w hw => by
    unfold clF lcF lc2 lc1
    refine ⟨?_, ?_, ?_⟩
    · rw [u2_o (by omega), u2_o (by omega), u2_o (by omega), if_neg (by omega), if_pos (by omega)]
    · rw [u2_o (by omega), u2_o (by omega), u2_o (by omega), if_neg (by omega), if_pos (by omega)]
    · rw [u2_o (by omega), u2_o (by omega), u2_o (by omega), if_pos (by omega)]
  have ob : clF b (u2 (u2 f 4 2 0) 4 1 n) b 2 = -1 ∧ clF b (u2 (u2 f 4 2 0) 4 1 n) b 3 = -1 ∧ clF b (u2 (u2 f 4 2 0) 4 1 n) b 4 = 0 := by
    unfold clF
    refine ⟨?_, ?_, ?_⟩
    · rw [u2_o (by omega), u2_o (by omega), u2_s]
    · rw [u2_o (by omega), u2_s]
    · rw [u2_s]
  have v : ∀ k, tx00 n φ 104 k = if k = 29 then 0 else if k = 28 then 0 else if k = 27 then 0 else if k = 26 then 8 else if k = 61 then 0 else if k = 25 then 0 else if k = 24 then 0 else if k = 23 then 0 else if k = 22 then 0 else if k = 21 then 0 else if k = 20 then 0 else if k = 7 then 0 else if k = 5 then -1 else if k = 4 then 0 else if k = 1 then 0 else if k = 6 then n else if k = 2 then 0 else φ 104 k := fun k => by
    unfold tx00 plnF
    rw [c127 (by omega)]
    simp only [u2, true_and]
  have w127 : ∀ w, w < 8 → tx00 n φ 127 (8 + w) = 0 := fun w hw => by unfold tx00 plnF clL; rw [if_pos (by omega)]
  have r105 : ∀ k, tx00 n φ 105 k = φ 105 k := fun k => tx00_r (by omega) (by omega)
  have v4 := v 4
  have v5 := v 5
  have v6 := v 6
  have v7 := v 7
  have v20 := v 20
  have v21 := v 21
  have v22 := v 22
  have v23 := v 23
  have v24 := v 24
  have v25 := v 25
  have v26 := v 26
  have v27 := v 27
  have v28 := v 28
  have v29 := v 29
  simp at v4 v5 v6 v7 v20 v21 v22 v23 v24 v25 v26 v27 v28 v29
  have eX : tx0 n φ = tkF (tx00 n φ) := rfl
  have P : ∀ a k, ¬ (a = 104 ∧ 7 ≤ k ∧ k ≤ 10) → tkF (tx00 n φ) a k = tx00 n φ a k := fun a k z => tkF_o z
  refine Ct.ofV (by decide) rfl (Nat.le_of_ble_eq_true rfl) ?_
  refine V_al0n dX2_parse_0 ?_
  refine V_getR kk2 (by decide) fl_X2_42 (fx_2_0 hρ) dX2_parse_1 ?_
  refine V_il2n dX2_parse_4 ?_
  refine V_callV (as := [_]) ml_X2_46 im_X6_begin se_X6_begin kk4 (by decide) (by decide) dX2_parse_5 rfl rfl (by decide) (by decide) (Nat.le_of_ble_eq_true rfl) (by decide) (by decide) rfl (c_tkbegin hρ (by omega)) ?_
  refine pq4 ?_
  refine V_al1n dX2_parse_8 ?_
  refine V_callV (as := []) ml_X2_50 im_X7_clear se_X7_clear (kb_0 hb) (by decide) (kl_0 hb) dX2_parse_9 rfl rfl (by decide) (by decide) (Nat.le_of_ble_eq_true rfl) (by decide) (by decide) rfl (c_tclear hρ hb) ?_
  refine pq4 ?_
  refine V_al0n dX2_parse_12 ?_
  refine V_iconst dX2_parse_13 ?_
  refine V_putI kk2 (by decide) fl_X2_31 rfl dX2_parse_14 ?_
  refine V_al0n dX2_parse_17 ?_
  refine V_iconst dX2_parse_18 ?_
  refine V_putI kk2 (by decide) fl_X2_34 rfl dX2_parse_19 ?_
  refine V_iconst dX2_parse_22 ?_
  refine V_is3n dX2_parse_23 (by decide) rfl ?_
  generalize clF b (u2 (u2 f 4 2 0) 4 1 n) = F at *
  have fo : ∀ a k, ¬ (a = 2 ∧ (k = 6 ∨ k = 7)) → u2 (u2 F 2 6 0) 2 7 (-1) a k = F a k := fun a k z => by rw [u2_o (by omega), u2_o (by omega)]
  have mo : ∀ w, F 4 w = if w = 1 then n else if w = 2 then 0 else f 4 w := fun w => by
    rw [o4 w]
    simp only [u2, true_and]
  have m1 := mo 1
  have m2 := mo 2
  simp at m1 m2
  have g7 := hok.1.tk.1.1
  refine w_parse (f0 := f) (R := txR n φ) hρ hb (fun f' h => ⟨rfl, rfl, h, rfl⟩) (mu (tx0 n φ) + 1) 0 _ (tx0 n φ) ?_ ?_ ?_ ?_ ?_ hok.1.tk hok.2.tk ?_ (by omega) ?_ rfl
  · rw [eX]
    refine PRE.start (φ := tx00 n φ) ⟨by omega, by rw [fo _ _ (by omega), m1, v6]; omega, fun k hk => ?_, fun k hk => by rw [r105]; exact hK.2.1 k hk⟩ v7 (by rw [fo _ _ (by omega)]; exact m2) ⟨by rw [u2_o (by omega), u2_s]; exact v4.symm, by rw [u2_s]; exact v5.symm⟩
    rw [fo _ _ (by omega), o _ _ (by omega) (by omega), r105]
    exact htp k (by omega)
  · rw [eX]
    refine CT.zero (fun i hi => ?_) (fun i hi => ?_) (fun w hw => ?_) (by rw [fo _ _ (by omega)]; exact o8) (fun w hw => ?_)
    · rw [fo _ _ (by omega), fo _ _ (by omega), fo _ _ (by omega), oR i 4 hi, oR i 0 hi, oR i 1 hi]
      exact ⟨rfl, hRw i hi⟩
    · unfold rdT
      rw [if_pos rfl, P _ _ (by omega)]
      rcases (show i = 0 ∨ i = 1 ∨ i = 2 ∨ i = 3 ∨ i = 4 ∨ i = 5 by omega) with rfl | rfl | rfl | rfl | rfl | rfl
      · exact v20
      · exact v21
      · exact v22
      · exact v23
      · exact v24
      · exact v25
    · unfold rdT
      rw [if_neg (by omega), P _ _ (by omega)]
      exact w127 w hw
    · rw [fo _ _ (by omega), fo _ _ (by omega), fo _ _ (by omega)]
      exact oL w hw
  · rw [eX, P _ _ (by omega), v25, fo _ _ (by omega)]; exact o2
  · unfold LoS
    rw [eX, P _ _ (by omega), P _ _ (by omega), P _ _ (by omega), P _ _ (by omega), v28, v29, v26, v27, fo _ _ (by omega), fo _ _ (by omega)]
    exact ⟨fun z => by omega, fun _ => ⟨ob.1, rfl⟩, fun z => by omega, fun _ => ⟨ob.2.1, rfl⟩⟩
  · rw [fo _ _ (by omega)]; exact ob.2.2
  · intro a k z1 z2 z3 z4
    rw [fo _ _ (by omega)]; exact o a k z3 z4
  · rw [eX]
    unfold mu
    have g71 := g7.1
    have g72 := g7.2.1
    rw [P 104 6 (by omega)] at g71 g72
    rw [P 104 6 (by omega)]
    split <;> omega
end CPARSE

