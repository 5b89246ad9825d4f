section RACE3
variable {T : TT} {b : Nat} {ρ : RT} {f f' : IT} {g g' : JT} {φ φ' : IT} {γ γ' : JT}
/-- the racer alone has changed -/
theorem RSm.racer (h : RSm T ρ f g φ γ) (hw : WR T 62 (φ' 104 78) (φ' 104 79) (φ' 104 80) (φ' 137) (γ' 104 69) f' g') (e : ∀ a k, rcC a k → a ≠ 62 → f' a k = f a k) (e2 : ∀ a k, rcC a k → a ≠ 62 → g' a k = g a k) (p : ∀ k, k = 67 ∨ k = 68 ∨ 79 ≤ k ∧ k ≤ 82 ∨ 97 ≤ k ∧ k ≤ 104 → φ' 104 k = φ 104 k) (p78 : φ' 104 78 = φ 104 78) (p138 : φ' 138 = φ 138) (p147 : φ' 147 = φ 147) (p102 : γ' 104 102 = γ 104 102) : RSm T ρ f' g' φ' γ' := by
  obtain ⟨h1, h2, h3, h4, h5, h6, h7, h8⟩ := h
  have hww : ∀ {a on m p d r}, a = 64 ∨ (84 ≤ a ∧ a ≤ 103) → WR T a on m p r d f g → WR T a on m p r d f' g' := fun ha hw => hw.cg (fun k => e _ k (by unfold rcC; omega) (by omega)) (e2 _ 14 (by unfold rcC; omega) (by omega))
  unfold RSm
  rw [p 67 (by omega), p 68 (by omega), p 82 (by omega), p 97 (by omega), p 98 (by omega), p 99 (by omega), p 100 (by omega), p 103 (by omega), p 104 (by omega), p138, p147, p102, e 0 10 (by unfold rcC; omega) (by omega), e 0 12 (by unfold rcC; omega) (by omega), e 0 13 (by unfold rcC; omega) (by omega), e 0 14 (by unfold rcC; omega) (by omega), e 0 5 (by unfold rcC; omega) (by omega), e 0 6 (by unfold rcC; omega) (by omega)]
  refine ⟨hw, by rw [p78]; exact h2, h3, fun u hu a ha => ?_, h5, fun q => ⟨hww (by omega) (h6 q).1, (h6 q).2⟩, h7, h8⟩
  rw [p 79 (by omega), p 80 (by omega)]
  obtain ⟨a', ha', hr⟩ := h3.1 u (by omega)
  rw [ha] at ha'
  cases ha'
  exact hww (by omega) (h4 u hu a ha)
theorem c_shift (hW : TW T b ρ) (hC : CT T b f) (hS : RSm T ρ f g φ γ) {h : Int} (rh : ri h) : C_X11_shift [.ref 0, .int (iz h)] ρ f g (fun r ρ' f' g' => r = some (.int (iz (if shfO T h φ = true then T 119 h.toNat else -1))) ∧ ρ' = ρ ∧ RSm T ρ f' g' (shfF T h φ) γ ∧ RK f f' ∧ g' = g) := by
  have hk := hW.2.2.2.2.1
  have hb := hW.2.1
  have hρ := hW.1
  have hgC := hS.gC hW hC
  have hS0 := hS
  obtain ⟨h1, h2, h3, h4, h5, h6, h7, h8⟩ := hS
  refine Ct.ofV (by decide) rfl (Nat.le_of_ble_eq_true rfl) ?_
  have x3 : going T φ = true → f 62 3 = φ 137 6 ∧ ri (φ 137 6) ∧ φ 104 78 = 1 := fun hg => by
    have g78 : φ 104 78 = 1 := by unfold going at hg; simp at hg; omega
    obtain ⟨q1, q2, q3, q4, -⟩ := h1.2.2.2.2 g78
    have := q1.2.2.2.2.2.2
    have := hk.ho
    exact ⟨q4, by unfold ri; omega, g78⟩
  cases c : shfO T h φ with
  | false =>
    have er : shfF T h φ = φ := by unfold shfF; rw [c]; rfl
    rw [er, if_neg Bool.false_ne_true]
    have X : V_X11_shift (fun r ρ' f' g' => r = some (.int (iz (-1))) ∧ ρ' = ρ ∧ RSm T ρ f' g' φ γ ∧ RK f f' ∧ g' = g) 37 [.ref 0, .int (iz h), .null] [] ρ f g := by
      refine V_iconst dX11_shift_37 ?_
      exact V_ireturn rfl ⟨rfl, rfl, hS0, fun _ _ _ => rfl, rfl⟩ dX11_shift_38
    unfold shfO at c
    refine V_al0n dX11_shift_0 ?_
    refine V_getR kk0 (by decide) fl_X11_55 (fx_0_8 hρ) dX11_shift_1 ?_
    refine V_al0n dX11_shift_4 ?_
    refine V_getR kk0 (by decide) fl_X11_29 hW.2.2.1 dX11_shift_5 ?_
    refine V_callV (as := [_]) ml_X11_226 im_X10_isGoing se_X10_isGoing kk62 (by decide) (by decide) dX11_shift_8 rfl rfl (by decide) (by decide) (Nat.le_of_ble_eq_true rfl) (by decide) (by decide) rfl (hgC) ?_
    refine pq4 ?_
    refine V_bt (tgt := 37) dX11_shift_11 rfl (fun b11 => ?_) (fun b11 => ?_)
    · exact X
    · refine V_al0n dX11_shift_14 ?_
      refine V_getR kk0 (by decide) fl_X11_29 hW.2.2.1 dX11_shift_15 ?_
      refine V_iconst dX11_shift_18 ?_
      refine V_il1n dX11_shift_19 ?_
      refine V_callV (as := [_, _]) ml_X11_160 im_X7_has se_X7_has (kb_0 hb) (by decide) (kl_0 hb) dX11_shift_20 rfl rfl (by decide) (by decide) (Nat.le_of_ble_eq_true rfl) (by decide) (by decide) rfl (c_hasH hW hC rh) ?_
      refine pq4 ?_
      refine V_bt (tgt := 37) dX11_shift_23 rfl (fun b23 => ?_) (fun b23 => ?_)
      · exact X
      · refine V_il1n dX11_shift_26 ?_
        refine V_al0n dX11_shift_27 ?_
        refine V_getR kk0 (by decide) fl_X11_55 (fx_0_8 hρ) dX11_shift_28 ?_
        refine V_getI kk62 (by decide) fl_X11_261 (x3 b11).1 dX11_shift_31 ?_
        refine V_icmp_ne (tgt := 39) dX11_shift_34 rfl rh (x3 b11).2.1 (fun b34 => ?_) (fun b34 => ?_)
        · exfalso; rw [b11, b23] at c; simp at c; exact b34 (by omega)
        · exact X
  | true =>
    have c0 := c
    unfold shfO at c0
    rw [Bool.and_eq_true, Bool.and_eq_true] at c0
    obtain ⟨⟨cg, ch⟩, cn⟩ := c0
    obtain ⟨hN, rfl, hh⟩ := okH_at ch
    obtain ⟨y3, -, g78⟩ := x3 cg
    have t2 := tat2 hk (j := 2) hh (by omega)
    have t0 := tat2 hk (j := 0) hh (by omega)
    simp [tcl] at t2 t0
    have hne : φ 137 6 ≠ (hN : Int) := by simpa using cn
    have er : shfF T (hN : Int) φ = u2 (u2 φ 137 6 (hN : Int)) 137 1 (φ 137 1 + T 119 hN) := by unfold shfF; rw [c, if_pos rfl, Int.toNat_natCast]
    rw [er, if_pos rfl, Int.toNat_natCast]
    have hat := c_at (f := f) (g := g) hρ hb hC hk (i := 2) (by omega) (k := (hN : Int)) (j := 2) rh (by unfold ri; omega)
    rw [t2] at hat
    have hgp := c_grip (f := f) (g := g) hρ hb hC hk (w := 62) rfl (by omega) rh
    have fin : RSm T ρ (u2 (grpF T 62 (hN : Int) f) 62 9 (f 62 9 + T 119 hN)) g (u2 (u2 φ 137 6 (hN : Int)) 137 1 (φ 137 1 + T 119 hN)) γ := by
      have eo : ∀ a k, ¬ (a = 62 ∧ (k = 3 ∨ k = 4 ∨ k = 9)) → u2 (grpF T 62 (hN : Int) f) 62 9 (f 62 9 + T 119 hN) a k = f a k := fun a k q => by unfold grpF; rw [u2_o (by omega), u2_o (by omega), u2_o (by omega)]
      have po : ∀ a k, ¬ (a = 137 ∧ (k = 1 ∨ k = 6)) → u2 (u2 φ 137 6 (hN : Int)) 137 1 (φ 137 1 + T 119 hN) a k = φ a k := fun a k q => by rw [u2_o (by omega), u2_o (by omega)]
      have y9 : u2 (grpF T 62 (hN : Int) f) 62 9 (f 62 9 + T 119 hN) 62 9 = f 62 9 + T 119 hN := u2_s
      have y4 : u2 (grpF T 62 (hN : Int) f) 62 9 (f 62 9 + T 119 hN) 62 4 = T 117 hN := by unfold grpF; rw [u2_o (by omega), u2_s, t0]
      have yy3 : u2 (grpF T 62 (hN : Int) f) 62 9 (f 62 9 + T 119 hN) 62 3 = (hN : Int) := by unfold grpF; rw [u2_o (by omega), u2_o (by omega), u2_s]
      have z1 : u2 (u2 φ 137 6 (hN : Int)) 137 1 (φ 137 1 + T 119 hN) 137 1 = φ 137 1 + T 119 hN := u2_s
      have z6 : u2 (u2 φ 137 6 (hN : Int)) 137 1 (φ 137 1 + T 119 hN) 137 6 = (hN : Int) := by rw [u2_o (by omega), u2_s]
      obtain ⟨i1, i2, i3, i4, i5⟩ := h1
      obtain ⟨q1, q2, q3, q4, q5, q6, q7, q8, q9, q10, q11, q12, k, v, q13, q14, q15⟩ := i5 g78
      refine hS0.racer ?_ (fun a k _ hne => eo a k (by omega)) (fun a k _ hne => rfl) (fun k hk => po 104 k (by omega)) (po 104 78 (by omega)) (by funext k; exact po 138 k (by omega)) (by funext k; exact po 147 k (by omega)) rfl
      rw [po 104 78 (by omega), po 104 79 (by omega), po 104 80 (by omega)]
      unfold WR
      rw [eo 62 0 (by omega), eo 62 1 (by omega), eo 62 2 (by omega), yy3, y4, eo 62 5 (by omega), eo 62 6 (by omega), eo 62 7 (by omega), eo 62 8 (by omega), y9, eo 62 10 (by omega), eo 62 11 (by omega), eo 62 12 (by omega), eo 62 13 (by omega), po 137 0 (by omega), z1, po 137 2 (by omega), po 137 3 (by omega), po 137 4 (by omega), po 137 5 (by omega), z6, Int.toNat_natCast]
      refine ⟨i1, i2, i3, i4, fun _ => ⟨?_, q2, q3, rfl, rfl, q6, q7, q8, q9, by rw [q10], q11, q12, k, v, q13, q14, q15⟩⟩
      unfold RWf at q1 ⊢
      rw [po 137 0 (by omega), po 137 2 (by omega), po 137 3 (by omega), po 137 5 (by omega), z6]
      omega
    refine V_al0n dX11_shift_0 ?_
    refine V_getR kk0 (by decide) fl_X11_55 (fx_0_8 hρ) dX11_shift_1 ?_
    refine V_al0n dX11_shift_4 ?_
    refine V_getR kk0 (by decide) fl_X11_29 hW.2.2.1 dX11_shift_5 ?_
    refine V_callV (as := [_]) ml_X11_226 im_X10_isGoing se_X10_isGoing kk62 (by decide) (by decide) dX11_shift_8 rfl rfl (by decide) (by decide) (Nat.le_of_ble_eq_true rfl) (by decide) (by decide) rfl (hgC) ?_
    refine pq4 ?_
    refine V_bt (tgt := 37) dX11_shift_11 rfl (fun b11 => ?_) (fun b11 => ?_)
    · rw [cg] at b11; cases b11
    · refine V_al0n dX11_shift_14 ?_
      refine V_getR kk0 (by decide) fl_X11_29 hW.2.2.1 dX11_shift_15 ?_
      refine V_iconst dX11_shift_18 ?_
      refine V_il1n dX11_shift_19 ?_
      refine V_callV (as := [_, _]) ml_X11_160 im_X7_has se_X7_has (kb_0 hb) (by decide) (kl_0 hb) dX11_shift_20 rfl rfl (by decide) (by decide) (Nat.le_of_ble_eq_true rfl) (by decide) (by decide) rfl (c_hasH hW hC rh) ?_
      refine pq4 ?_
      refine V_bt (tgt := 37) dX11_shift_23 rfl (fun b23 => ?_) (fun b23 => ?_)
      · rw [ch] at b23; cases b23
      · refine V_il1n dX11_shift_26 ?_
        refine V_al0n dX11_shift_27 ?_
        refine V_getR kk0 (by decide) fl_X11_55 (fx_0_8 hρ) dX11_shift_28 ?_
        refine V_getI kk62 (by decide) fl_X11_261 (x3 b11).1 dX11_shift_31 ?_
        refine V_icmp_ne (tgt := 39) dX11_shift_34 rfl rh (x3 b11).2.1 (fun b34 => ?_) (fun b34 => ?_)
        · refine V_al0n dX11_shift_39 ?_
          refine V_getR kk0 (by decide) fl_X11_29 hW.2.2.1 dX11_shift_40 ?_
          refine V_iconst dX11_shift_43 ?_
          refine V_il1n dX11_shift_44 ?_
          refine V_iconst dX11_shift_45 ?_
          refine V_callV (as := [_, _, _]) ml_X11_176 im_X7_at se_X7_at (kb_0 hb) (by decide) (kl_0 hb) dX11_shift_46 rfl rfl (by decide) (by decide) (Nat.le_of_ble_eq_true rfl) (by decide) (by decide) rfl (hat) ?_
          refine pq4 ?_
          refine V_is2n dX11_shift_49 (by decide) rfl ?_
          refine V_al0n dX11_shift_50 ?_
          refine V_getR kk0 (by decide) fl_X11_55 (fx_0_8 hρ) dX11_shift_51 ?_
          refine V_al0n dX11_shift_54 ?_
          refine V_getR kk0 (by decide) fl_X11_29 hW.2.2.1 dX11_shift_55 ?_
          refine V_il1n dX11_shift_58 ?_
          refine V_callV (as := [_, _]) ml_X11_267 im_X10_grip se_X10_grip kk62 (by decide) (by decide) dX11_shift_59 rfl rfl (by decide) (by decide) (Nat.le_of_ble_eq_true rfl) (by decide) (by decide) rfl (hgp) ?_
          refine pq4 ?_
          refine V_al0n dX11_shift_62 ?_
          refine V_getR kk0 (by decide) fl_X11_55 (fx_0_8 hρ) dX11_shift_63 ?_
          refine V_dup dX11_shift_66 rfl ?_
          refine V_getI kk62 (by decide) fl_X11_241 (by unfold grpF; rw [u2_o (by omega), u2_o (by omega)]) dX11_shift_67 ?_
          refine V_il2n dX11_shift_70 ?_
          refine V_iadd dX11_shift_71 ?_
          refine V_putI kk62 (by decide) fl_X11_241 rfl dX11_shift_72 ?_
          refine V_il2n dX11_shift_75 ?_
          exact V_ireturn rfl ⟨rfl, rfl, fin, fun a k q => by unfold grpF; rw [u2_o (fun e => q (Or.inl (by omega))), u2_o (fun e => q (Or.inl (by omega))), u2_o (fun e => q (Or.inl (by omega)))], rfl⟩ dX11_shift_76
        · exfalso; omega
theorem c_now (hW : TW T b ρ) (hC : CT T b f) (hS : RSm T ρ f g φ γ) {n : Int} (rn_ : ri n) : C_X11_now [.ref 0, .int (iz n)] ρ f g (fun r ρ' f' g' => r = some (.int (iz (aNow T n φ))) ∧ ρ' = ρ ∧ f' = f ∧ g' = g) := by
  have hk := hW.2.2.2.2.1
  have hb := hW.2.1
  have hρ := hW.1
  have h6 := hk.la
  have hgC := hS.gC hW hC
  obtain ⟨h1, -⟩ := hS
  refine Ct.ofV (by decide) rfl (Nat.le_of_ble_eq_true rfl) ?_
  rcases h1.2.2.1 with z | z
  · have ea : aNow T n φ = -1 := by unfold aNow; rw [if_neg (by omega)]
    have x0 : f 62 0 = 0 := h1.1.trans z
    rw [ea]
    refine V_al0n dX11_now_0 ?_
    refine V_getR kk0 (by decide) fl_X11_55 (fx_0_8 hρ) dX11_now_1 ?_
    refine V_getZ kk62 (by decide) fl_X11_122 x0 dX11_now_4 ?_
    refine V_if_ne (tgt := 12) dX11_now_7 rfl (by first | assumption | (unfold ri at *; omega)) (fun b7 => ?_) (fun b7 => ?_)
    · exact absurd rfl b7
    · refine V_iconst dX11_now_10 ?_
      exact V_ireturn rfl ⟨rfl, rfl, rfl, rfl⟩ dX11_now_11
  · have x0 : f 62 0 = 1 := h1.1.trans z
    have h1' := h1
    rw [z] at h1'
    have hrr := h1'.rr hk
    obtain ⟨q1, q2, q3, q4, q5, q6, q7, q8, q9, q10, q11, q12, k, v, q13, q14, q15⟩ := h1.2.2.2.2 z
    have hpo := q13.go hk
    have hr3 := q1.2.2.2.2.1
    have ho := c_isOut (w := 62) (ρ := ρ) (f := f) (g := g) rfl hrr.1
    rw [q9] at ho
    have hnp := c_nextPace (w := 62) (g := g) hρ hb hC hk rfl hrr.2.2.1 hrr.2.2.2.1 hrr.2.2.2.2.1 hrr.2.2.2.2.2.1
    unfold aNow
    rw [if_pos z]
    refine V_al0n dX11_now_0 ?_
    refine V_getR kk0 (by decide) fl_X11_55 (fx_0_8 hρ) dX11_now_1 ?_
    refine V_getZ kk62 (by decide) fl_X11_122 x0 dX11_now_4 ?_
    refine V_if_ne (tgt := 12) dX11_now_7 rfl (by first | assumption | (unfold ri at *; omega)) (fun b7 => ?_) (fun b7 => ?_)
    · refine V_il1n dX11_now_12 ?_
      rcases (show n = 0 ∨ n = 1 ∨ n = 2 ∨ n = 3 ∨ n = 4 ∨ n = 5 ∨ n = 6 ∨ n = 7 ∨ (n < 0 ∨ 7 < n) by omega) with c9 | c9 | c9 | c9 | c9 | c9 | c9 | c9 | c9
      · refine V_tabIn (tgt := 60) (i := 0) dX11_now_13 (by first | rfl | omega) (by decide) (by first | decide | assumption | (unfold ri at *; omega)) rfl rfl ?_
        refine V_al0n dX11_now_60 ?_
        refine V_getR kk0 (by decide) fl_X11_55 (fx_0_8 hρ) dX11_now_61 ?_
        refine V_getI kk62 (by decide) fl_X11_210 q11 dX11_now_64 ?_
        exact V_ireturn rfl ⟨by rw [c9]; rfl, rfl, rfl, rfl⟩ dX11_now_67
      · refine V_tabIn (tgt := 68) (i := 1) dX11_now_13 (by first | rfl | omega) (by decide) (by first | decide | assumption | (unfold ri at *; omega)) rfl rfl ?_
        refine V_al0n dX11_now_68 ?_
        refine V_getR kk0 (by decide) fl_X11_55 (fx_0_8 hρ) dX11_now_69 ?_
        refine V_getI kk62 (by decide) fl_X11_241 q10 dX11_now_72 ?_
        exact V_ireturn rfl ⟨by rw [c9]; rfl, rfl, rfl, rfl⟩ dX11_now_75
      · refine V_tabIn (tgt := 76) (i := 2) dX11_now_13 (by first | rfl | omega) (by decide) (by first | decide | assumption | (unfold ri at *; omega)) rfl rfl ?_
        refine V_al0n dX11_now_76 ?_
        refine V_getR kk0 (by decide) fl_X11_55 (fx_0_8 hρ) dX11_now_77 ?_
        refine V_getI kk62 (by decide) fl_X11_244 q8 dX11_now_80 ?_
        exact V_ireturn rfl ⟨by rw [c9]; rfl, rfl, rfl, rfl⟩ dX11_now_83
      · refine V_tabIn (tgt := 84) (i := 3) dX11_now_13 (by first | rfl | omega) (by decide) (by first | decide | assumption | (unfold ri at *; omega)) rfl rfl ?_
        refine V_al0n dX11_now_84 ?_
        refine V_getR kk0 (by decide) fl_X11_55 (fx_0_8 hρ) dX11_now_85 ?_
        refine V_getI kk62 (by decide) fl_X11_247 q9 dX11_now_88 ?_
        exact V_ireturn rfl ⟨by rw [c9]; rfl, rfl, rfl, rfl⟩ dX11_now_91
      · refine V_tabIn (tgt := 92) (i := 4) dX11_now_13 (by first | rfl | omega) (by decide) (by first | decide | assumption | (unfold ri at *; omega)) rfl rfl ?_
        refine V_al0n dX11_now_92 ?_
        refine V_getR kk0 (by decide) fl_X11_55 (fx_0_8 hρ) dX11_now_93 ?_
        refine V_getI kk62 (by decide) fl_X11_250 q12 dX11_now_96 ?_
        exact V_ireturn rfl ⟨by rw [c9]; rfl, rfl, rfl, rfl⟩ dX11_now_99
      · refine V_tabIn (tgt := 100) (i := 5) dX11_now_13 (by first | rfl | omega) (by decide) (by first | decide | assumption | (unfold ri at *; omega)) rfl rfl ?_
        refine V_al0n dX11_now_100 ?_
        refine V_getR kk0 (by decide) fl_X11_55 (fx_0_8 hρ) dX11_now_101 ?_
        refine V_al0n dX11_now_104 ?_
        refine V_getR kk0 (by decide) fl_X11_29 hW.2.2.1 dX11_now_105 ?_
        refine V_callV (as := [_]) ml_X11_226 im_X10_isGoing se_X10_isGoing kk62 (by decide) (by decide) dX11_now_108 rfl rfl (by decide) (by decide) (Nat.le_of_ble_eq_true rfl) (by decide) (by decide) rfl (hgC) ?_
        refine pq4 ?_
        refine V_bt (tgt := 118) dX11_now_111 rfl (fun b111 => ?_) (fun b111 => ?_)
        · refine V_al0n dX11_now_118 ?_
          refine V_getR kk0 (by decide) fl_X11_55 (fx_0_8 hρ) dX11_now_119 ?_
          refine V_callV (as := []) ml_X11_253 im_X10_isOut se_X10_isOut kk62 (by decide) (by decide) dX11_now_122 rfl rfl (by decide) (by decide) (Nat.le_of_ble_eq_true rfl) (by decide) (by decide) rfl (ho) ?_
          refine pq4 ?_
          refine V_bt (tgt := 132) dX11_now_125 rfl (fun b125 => ?_) (fun b125 => ?_)
          · refine V_iconst dX11_now_132 ?_
            exact V_ireturn rfl ⟨by rw [if_neg (by omega), if_pos c9]; congr 3; first | (have hg := b111; unfold going at hg; simp at hg; rw [if_neg (by omega), if_pos b111]) | (simp at b125; rw [if_pos (by omega)]) | (simp at b125; rw [if_neg (by omega), if_neg (by rw [b111]; exact Bool.false_ne_true)]), rfl, rfl, rfl⟩ dX11_now_133
          · refine V_iconst dX11_now_128 ?_
            refine V_goto (tgt := 133) dX11_now_129 rfl ?_
            exact V_ireturn rfl ⟨by rw [if_neg (by omega), if_pos c9]; congr 3; first | (have hg := b111; unfold going at hg; simp at hg; rw [if_neg (by omega), if_pos b111]) | (simp at b125; rw [if_pos (by omega)]) | (simp at b125; rw [if_neg (by omega), if_neg (by rw [b111]; exact Bool.false_ne_true)]), rfl, rfl, rfl⟩ dX11_now_133
        · refine V_iconst dX11_now_114 ?_
          refine V_goto (tgt := 133) dX11_now_115 rfl ?_
          exact V_ireturn rfl ⟨by rw [if_neg (by omega), if_pos c9]; congr 3; first | (have hg := b111; unfold going at hg; simp at hg; rw [if_neg (by omega), if_pos b111]) | (simp at b125; rw [if_pos (by omega)]) | (simp at b125; rw [if_neg (by omega), if_neg (by rw [b111]; exact Bool.false_ne_true)]), rfl, rfl, rfl⟩ dX11_now_133
      · refine V_tabIn (tgt := 134) (i := 6) dX11_now_13 (by first | rfl | omega) (by decide) (by first | decide | assumption | (unfold ri at *; omega)) rfl rfl ?_
        refine V_al0n dX11_now_134 ?_
        refine V_getR kk0 (by decide) fl_X11_55 (fx_0_8 hρ) dX11_now_135 ?_
        refine V_al0n dX11_now_138 ?_
        refine V_getR kk0 (by decide) fl_X11_29 hW.2.2.1 dX11_now_139 ?_
        refine V_callV (as := [_]) ml_X11_226 im_X10_isGoing se_X10_isGoing kk62 (by decide) (by decide) dX11_now_142 rfl rfl (by decide) (by decide) (Nat.le_of_ble_eq_true rfl) (by decide) (by decide) rfl (hgC) ?_
        refine pq4 ?_
        refine V_bt (tgt := 162) dX11_now_145 rfl (fun b145 => ?_) (fun b145 => ?_)
        · refine V_iconst dX11_now_162 ?_
          exact V_ireturn rfl ⟨by rw [if_neg (by omega), if_neg (by omega), if_pos c9]; congr 3; first | (rw [if_pos b145]; unfold wnp rpF; rw [q8, q6, q3, q14, q13.lat hk]; have hl : k < nLa T := (by have hg := b145; unfold going at hg; simp at hg; exact hpo.1.mpr hg.2); have e80 : φ 104 80 = (((φ 104 80).toNat : Nat) : Int) := (by have := q1.2.1; omega); rw [e80, tat3 hk (by have := q1.2.1; omega) (by omega)]; rfl) | (rw [if_neg (by rw [b145]; exact Bool.false_ne_true)]), rfl, rfl, rfl⟩ dX11_now_163
        · refine V_al0n dX11_now_148 ?_
          refine V_getR kk0 (by decide) fl_X11_55 (fx_0_8 hρ) dX11_now_149 ?_
          refine V_al0n dX11_now_152 ?_
          refine V_getR kk0 (by decide) fl_X11_29 hW.2.2.1 dX11_now_153 ?_
          refine V_callV (as := [_]) ml_X11_257 im_X10_nextPace se_X10_nextPace kk62 (by decide) (by decide) dX11_now_156 rfl rfl (by decide) (by decide) (Nat.le_of_ble_eq_true rfl) (by decide) (by decide) rfl (hnp) ?_
          refine pq4 ?_
          refine V_goto (tgt := 163) dX11_now_159 rfl ?_
          exact V_ireturn rfl ⟨by rw [if_neg (by omega), if_neg (by omega), if_pos c9]; congr 3; first | (rw [if_pos b145]; unfold wnp rpF; rw [q8, q6, q3, q14, q13.lat hk]; have hl : k < nLa T := (by have hg := b145; unfold going at hg; simp at hg; exact hpo.1.mpr hg.2); have e80 : φ 104 80 = (((φ 104 80).toNat : Nat) : Int) := (by have := q1.2.1; omega); rw [e80, tat3 hk (by have := q1.2.1; omega) (by omega)]; rfl) | (rw [if_neg (by rw [b145]; exact Bool.false_ne_true)]), rfl, rfl, rfl⟩ dX11_now_163
      · refine V_tabIn (tgt := 164) (i := 7) dX11_now_13 (by first | rfl | omega) (by decide) (by first | decide | assumption | (unfold ri at *; omega)) rfl rfl ?_
        refine V_al0n dX11_now_164 ?_
        refine V_getR kk0 (by decide) fl_X11_55 (fx_0_8 hρ) dX11_now_165 ?_
        refine V_getI kk62 (by decide) fl_X11_261 q4 dX11_now_168 ?_
        exact V_ireturn rfl ⟨by rw [c9]; rfl, rfl, rfl, rfl⟩ dX11_now_171
      · refine V_tabOut (tgt := 172) dX11_now_13 (by omega) (by first | assumption | (unfold ri at *; omega)) rfl ?_
        refine V_iconst dX11_now_172 ?_
        exact V_ireturn rfl ⟨by rw [if_neg (by omega), if_neg (by omega), if_neg (by omega), if_neg (by omega)], rfl, rfl, rfl⟩ dX11_now_173
    · exfalso; omega
end RACE3

