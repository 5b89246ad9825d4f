theorem fixed_ok : ∀ q ∈ fixed, q.1 ≠ 63 ∧ ¬ (q.1 = 66 ∧ 2 ≤ q.2.1) ∧ ¬ (q.1 = 55 ∧ q.2.1 = 0) ∧ ¬ (q.1 = 0 ∧ (q.2.1 = 3 ∨ q.2.1 = 4)) := by decide +kernel
theorem Fx.cg {ρ ρ' : RT} (h : Fx ρ) (e : ∀ a k, a ≠ 63 → ¬ (a = 66 ∧ 2 ≤ k) → ¬ (a = 55 ∧ k = 0) → ¬ (a = 0 ∧ (k = 3 ∨ k = 4)) → ρ' a k = ρ a k) : Fx ρ' := fun q hq => by
  have := fixed_ok q hq
  rw [e q.1 q.2.1 this.1 this.2.1 this.2.2.1 this.2.2.2]
  exact h q hq
section RACE4
variable {T : TT} {b : Nat} {ρ : RT} {f f' : IT} {g g' : JT} {φ φ' : IT} {γ γ' : JT}
theorem c_undo (hρ : Fx ρ) (hS : RSm T ρ f g φ γ) : C_X11_undo [.ref 0] ρ f g (fun r ρ' f' g' => r = some (.int (iz (if φ 104 82 = 0 then -1 else φ 104 82 - 1))) ∧ ρ' = ρ ∧ RSm T ρ f' g' (undF φ) (undG φ γ) ∧ RK f f' ∧ RG g g') := by
  have hS0 := hS
  obtain ⟨h1, h2, h3, h4, h5, h6, h7, h8⟩ := hS
  refine Ct.ofV (by decide) rfl (Nat.le_of_ble_eq_true rfl) ?_
  by_cases c : φ 104 82 = 0
  · have e1 : undF φ = φ := by unfold undF; rw [if_pos c]
    have e2 : undG φ γ = γ := by unfold undG; rw [if_pos c]
    rw [e1, e2, if_pos c]
    refine V_al0n dX11_undo_0 ?_
    refine V_getI kk0 (by decide) fl_X11_63 h2.1 dX11_undo_1 ?_
    refine V_if_le (tgt := 16) dX11_undo_4 rfl (by unfold ri; omega) (fun b4 => ?_) (fun b4 => ?_)
    · refine V_iconst dX11_undo_16 ?_
      exact V_ireturn rfl ⟨rfl, rfl, hS0, fun _ _ _ => rfl, fun _ _ _ => rfl⟩ dX11_undo_17
    · exfalso; omega
  · obtain ⟨u, hu⟩ : ∃ u : Nat, φ 104 82 = (u : Int) + 1 := ⟨(φ 104 82 - 1).toNat, by omega⟩
    have eu : (φ 104 82 - 1).toNat = u := by omega
    have f10 : f 0 10 = (u : Int) + 1 := h2.1.trans hu
    obtain ⟨a, ha, har⟩ := h3.1 u (by omega)
    have hwa := h4 u (by omega) a ha
    have g78 := h2.2.2 (by omega)
    have ka := kdW (a := a) (by omega)
    have e1 : undF φ = cpR (u2 φ 104 82 (φ 104 82 - 1)) 137 138 (8 * u) 7 := by unfold undF; rw [if_neg c, eu]
    have e2 : undG φ γ = u2 γ 104 69 (φ 138 (8 * u + 7)) := by unfold undG; rw [if_neg c, eu]
    rw [e1, e2, if_neg c]
    have fin : RSm T ρ (takF 62 a (u2 f 0 10 (u : Int))) (u2 g 62 14 (g a 14)) (cpR (u2 φ 104 82 (φ 104 82 - 1)) 137 138 (8 * u) 7) (u2 γ 104 69 (φ 138 (8 * u + 7))) := by
      have po : ∀ x k, x ≠ 137 → ¬ (x = 104 ∧ k = 82) → cpR (u2 φ 104 82 (φ 104 82 - 1)) 137 138 (8 * u) 7 x k = φ x k := fun x k q1 q2 => by rw [cpR_o q1, u2_o q2]
      have p82 : cpR (u2 φ 104 82 (φ 104 82 - 1)) 137 138 (8 * u) 7 104 82 = (u : Int) := by rw [cpR_o (by omega), u2_s]; omega
      have pr : ∀ i, i < 7 → cpR (u2 φ 104 82 (φ 104 82 - 1)) 137 138 (8 * u) 7 137 i = φ 138 (8 * u + i) := fun i hi => by unfold cpR; rw [if_pos ⟨rfl, hi⟩, u2_o (by omega)]
      have eo : ∀ x k, x ≠ 62 → ¬ (x = 0 ∧ k = 10) → takF 62 a (u2 f 0 10 (u : Int)) x k = f x k := fun x k q1 q2 => by rw [takF_o q1, u2_o q2]
      have hW62 : WR T 62 1 (φ 104 79) (φ 104 80) (fun i => φ 138 (8 * u + i)) (φ 138 (8 * u + 7)) (takF 62 a (u2 f 0 10 (u : Int))) (u2 g 62 14 (g a 14)) :=
        (hwa.cg (f' := u2 f 0 10 (u : Int)) (g' := g) (fun k => u2_o (by omega)) rfl).tak (fun k hk => takF_w hk)
      have hww : ∀ {x on m p d r}, x = 64 ∨ (84 ≤ x ∧ x ≤ 103) → WR T x on m p r d f g → WR T x on m p r d (takF 62 a (u2 f 0 10 (u : Int))) (u2 g 62 14 (g a 14)) := fun hx hw => hw.cg (fun k => eo _ k (by omega) (by omega)) (u2_o (by omega))
      unfold RSm
      rw [po 104 78 (by omega) (by omega), po 104 79 (by omega) (by omega), po 104 80 (by omega) (by omega), p82, po 104 97 (by omega) (by omega), po 104 98 (by omega) (by omega), po 104 99 (by omega) (by omega), po 104 100 (by omega) (by omega), po 104 103 (by omega) (by omega), po 104 104 (by omega) (by omega), po 104 67 (by omega) (by omega), po 104 68 (by omega) (by omega), u2_s, u2_o (show ¬ (104 = 104 ∧ 102 = 69) by omega), eo 0 12 (by omega) (by omega), eo 0 13 (by omega) (by omega), eo 0 14 (by omega) (by omega), eo 0 5 (by omega) (by omega), eo 0 6 (by omega) (by omega)]
      refine ⟨?_, ⟨?_, by omega, fun _ => g78⟩, h3, fun v hv x hx => ?_, h5, fun q => ⟨?_, (h6 q).2⟩, h7, h8⟩
      · rw [g78]; exact hW62.cr pr
      · rw [takF_o (by omega), u2_s]
      · obtain ⟨x', hx', hr⟩ := h3.1 v (by omega)
        rw [hx] at hx'
        cases hx'
        have := hww (by omega) (h4 v (by omega) x hx)
        rw [po 138 (8 * v + 7) (by omega) (by omega)]
        exact this.cr (fun i hi => po 138 _ (by omega) (by omega))
      · exact (hww (by omega) (h6 q).1).cr (fun i hi => po 147 _ (by omega) (by omega))
    have X : V_X11_undo (fun r ρ' f' g' => r = some (.int (iz (φ 104 82 - 1))) ∧ ρ' = ρ ∧ RSm T ρ f' g' (cpR (u2 φ 104 82 (φ 104 82 - 1)) 137 138 (8 * u) 7) (u2 γ 104 69 (φ 138 (8 * u + 7))) ∧ RK f f' ∧ RG g g') 28 [.ref 0] [] ρ (u2 f 0 10 (u : Int)) g := by
      refine V_al0n dX11_undo_28 ?_
      refine V_getR kk0 (by decide) fl_X11_55 (fx_0_8 hρ) dX11_undo_29 ?_
      refine V_al0n dX11_undo_32 ?_
      refine V_getR kk0 (by decide) fl_X11_59 (fx_0_9 hρ) dX11_undo_33 ?_
      refine V_al0n dX11_undo_36 ?_
      refine V_getI kk0 (by decide) fl_X11_63 u2_s dX11_undo_37 ?_
      refine V_aald (k := u) kk63 (by decide) (by decide) rfl (by omega) (by decide) ha dX11_undo_40 ?_
      refine V_callV (as := [_]) ml_X11_237 im_X10_take se_X10_take kk62 (by decide) (by decide) dX11_undo_41 rfl rfl (by decide) (by decide) (Nat.le_of_ble_eq_true rfl) (by decide) (by decide) rfl (c_take (w := 62) (v := a) rfl ka (by omega) (by rw [u2_o (by omega)]; exact Or.inr hwa.1)) ?_
      refine pq4 ?_
      refine V_al0n dX11_undo_44 ?_
      refine V_getI kk0 (by decide) fl_X11_63 (by rw [takF_o (by omega), u2_s]) dX11_undo_45 ?_
      exact V_ireturn rfl ⟨by rw [show φ 104 82 - 1 = (u : Int) by omega], rfl, fin, fun x k q => by rw [takF_o (fun e => q (Or.inl (by omega))), u2_o (fun e => q (Or.inr (Or.inr ⟨e.1, by omega⟩)))], fun x q1 q2 => by funext k; exact u2_o (by omega)⟩ dX11_undo_48
    refine V_al0n dX11_undo_0 ?_
    refine V_getI kk0 (by decide) fl_X11_63 f10 dX11_undo_1 ?_
    refine V_if_le (tgt := 16) dX11_undo_4 rfl (by unfold ri; omega) (fun b4 => ?_) (fun b4 => ?_)
    · exfalso; omega
    · refine V_al0n dX11_undo_7 ?_
      refine V_getI kk0 (by decide) fl_X11_63 f10 dX11_undo_8 ?_
      refine V_bipush dX11_undo_11 rfl ?_
      refine V_icmp_le (tgt := 18) dX11_undo_13 rfl (by unfold ri; omega) (by unfold ri; omega) (fun b13 => ?_) (fun b13 => ?_)
      · refine V_al0n dX11_undo_18 ?_
        refine V_dup dX11_undo_19 rfl ?_
        refine V_getI kk0 (by decide) fl_X11_63 f10 dX11_undo_20 ?_
        refine V_iconst dX11_undo_23 ?_
        refine V_isub dX11_undo_24 ?_
        refine V_putI kk0 (by decide) fl_X11_63 rfl dX11_undo_25 ?_
        rw [show (u : Int) + 1 - 1 = (u : Int) by omega]
        exact X
      · exfalso; omega
theorem c_keep (hρ : Fx ρ) (hS : RSm T ρ f g φ γ) : C_X11_keep [.ref 0] ρ f g (fun r ρ' f' g' => r = some (.int (iz (if φ 104 78 = 1 then φ 137 0 else -2))) ∧ ρ' = ρ ∧ RSm T ρ f' g' (keepF φ) (keepG γ) ∧ RK f f' ∧ RG g g') := by
  have hS0 := hS
  obtain ⟨h1, h2, h3, h4, h5, h6, h7, h8⟩ := hS
  have z0 := h1.2.2.1
  have eo : ∀ x k, x ≠ 64 → ¬ (x = 0 ∧ 12 ≤ k ∧ k ≤ 14) → u2 (u2 (u2 (takF 64 62 f) 0 13 (φ 104 67)) 0 14 (φ 104 68)) 0 12 1 x k = f x k := fun x k q1 q2 => by rw [u2_o (by omega), u2_o (by omega), u2_o (by omega), takF_o q1]
  have fin : RSm T ρ (u2 (u2 (u2 (takF 64 62 f) 0 13 (φ 104 67)) 0 14 (φ 104 68)) 0 12 1) (u2 g 64 14 (g 62 14)) (keepF φ) (keepG γ) := by
    have P : ∀ x k, keepF φ x k = if x = 104 ∧ k = 104 then φ 104 68 else if x = 104 ∧ k = 103 then φ 104 67 else if x = 147 ∧ k < 7 then φ 137 k else if x = 104 ∧ k = 100 then φ 104 80 else if x = 104 ∧ k = 99 then φ 104 79 else if x = 104 ∧ k = 98 then φ 104 78 else if x = 104 ∧ k = 97 then 1 else φ x k := fun x k => by
      unfold keepF cpR
      simp only [u2]
      by_cases c1 : x = 104 ∧ k = 104
      · simp [c1]
      by_cases c2 : x = 104 ∧ k = 103
      · simp [c2]
      by_cases c3 : x = 147 ∧ k < 7
      · simp [c3]
      simp [c1, c2, c3]
    generalize keepF φ = Φ at P
    have po : ∀ x k, x ≠ 147 → ¬ (x = 104 ∧ 97 ≤ k) → Φ x k = φ x k := fun x k q1 q2 => by rw [P, if_neg (by omega), if_neg (by omega), if_neg (by omega), if_neg (by omega), if_neg (by omega), if_neg (by omega), if_neg (by omega)]
    have y97 : Φ 104 97 = 1 := by rw [P]; simp
    have y98 : Φ 104 98 = φ 104 78 := by rw [P]; simp
    have y99 : Φ 104 99 = φ 104 79 := by rw [P]; simp
    have y100 : Φ 104 100 = φ 104 80 := by rw [P]; simp
    have y103 : Φ 104 103 = φ 104 67 := by rw [P]; simp
    have y104 : Φ 104 104 = φ 104 68 := by rw [P]; simp
    have y147 : ∀ i, i < 7 → Φ 147 i = φ 137 i := fun i hi => by rw [P]; simp [hi]
    have hww : ∀ {x on m p d r}, x = 62 ∨ (84 ≤ x ∧ x ≤ 103) → WR T x on m p r d f g → WR T x on m p r d (u2 (u2 (u2 (takF 64 62 f) 0 13 (φ 104 67)) 0 14 (φ 104 68)) 0 12 1) (u2 g 64 14 (g 62 14)) := fun hx hw => hw.cg (fun k => eo _ k (by omega) (by omega)) (u2_o (by omega))
    unfold RSm keepG
    rw [po 104 78 (by omega) (by omega), po 104 79 (by omega) (by omega), po 104 80 (by omega) (by omega), po 104 82 (by omega) (by omega), y97, y98, y99, y100, y103, y104, po 104 67 (by omega) (by omega), po 104 68 (by omega) (by omega), u2_s, u2_o (show ¬ (104 = 104 ∧ 69 = 102) by omega), eo 0 10 (by omega) (by omega), eo 0 5 (by omega) (by omega), eo 0 6 (by omega) (by omega)]
    refine ⟨(hww (by omega) h1).cr (fun i hi => po 137 i (by omega) (by omega)), h2, h3, fun v hv x hx => ?_, ⟨by first | rfl | exact u2_s, Or.inr rfl⟩, fun _ => ⟨?_, ?_, h7.2, ?_, h8.2⟩, h7, h8⟩
    · obtain ⟨x', hx', hr⟩ := h3.1 v (by omega)
      rw [hx] at hx'
      cases hx'
      rw [po 138 (8 * v + 7) (by omega) (by omega)]
      exact (hww (by omega) (h4 v hv x hx)).cr (fun i hi => po 138 _ (by omega) (by omega))
    · refine WR.cr (r := φ 137) ?_ y147
      exact (h1.tak (w := 64) (fun k hk => takF_w hk)).cg (fun k => by rw [u2_o (by omega), u2_o (by omega), u2_o (by omega)]) rfl
    · rw [u2_o (by omega), u2_o (by omega), u2_s]
    · rw [u2_o (by omega), u2_s]
  have x0 : u2 (u2 (u2 (takF 64 62 f) 0 13 (φ 104 67)) 0 14 (φ 104 68)) 0 12 1 62 0 = φ 104 78 := (eo 62 0 (by omega) (by omega)).trans h1.1
  have x10 : φ 104 78 = 1 → f 62 10 = φ 137 0 := fun q => (h1.2.2.2.2 q).2.2.2.2.2.2.2.2.2.2.1
  refine Ct.ofV (by decide) rfl (Nat.le_of_ble_eq_true rfl) ?_
  refine V_al0n dX11_keep_0 ?_
  refine V_getR kk0 (by decide) fl_X11_66 (fx_0_11 hρ) dX11_keep_1 ?_
  refine V_al0n dX11_keep_4 ?_
  refine V_getR kk0 (by decide) fl_X11_55 (fx_0_8 hρ) dX11_keep_5 ?_
  refine V_callV (as := [_]) ml_X11_237 im_X10_take se_X10_take kk64 (by decide) (by decide) dX11_keep_8 rfl rfl (by decide) (by decide) (Nat.le_of_ble_eq_true rfl) (by decide) (by decide) rfl (c_take (w := 64) (v := 62) rfl rfl (by omega) (by rw [h1.1]; exact z0)) ?_
  refine pq4 ?_
  refine V_al0n dX11_keep_11 ?_
  refine V_al0n dX11_keep_12 ?_
  refine V_getI kk0 (by decide) fl_X11_36 ((takF_o (by omega)).trans h7.1) dX11_keep_13 ?_
  refine V_putI kk0 (by decide) fl_X11_72 rfl dX11_keep_16 ?_
  refine V_al0n dX11_keep_19 ?_
  refine V_al0n dX11_keep_20 ?_
  refine V_getZ kk0 (by decide) fl_X11_39 ((u2_o (by omega)).trans ((takF_o (by omega)).trans h8.1)) dX11_keep_21 ?_
  refine V_putZ kk0 (by decide) fl_X11_75 rfl h8.2 dX11_keep_24 ?_
  refine V_al0n dX11_keep_27 ?_
  refine V_iconst dX11_keep_28 ?_
  refine V_putZ kk0 (by decide) fl_X11_69 rfl (by first | exact Or.inl rfl | exact Or.inr rfl | (unfold bz; split <;> simp)) dX11_keep_29 ?_
  refine V_al0n dX11_keep_32 ?_
  refine V_getR kk0 (by decide) fl_X11_55 (fx_0_8 hρ) dX11_keep_33 ?_
  refine V_getZ kk62 (by decide) fl_X11_122 x0 dX11_keep_36 ?_
  refine V_if_eq (tgt := 52) dX11_keep_39 rfl (by unfold ri; omega) (fun b39 => ?_) (fun b39 => ?_)
  · refine V_bipush dX11_keep_52 rfl ?_
    exact V_ireturn rfl ⟨by first | (rw [if_pos (by omega), x10 (by omega)]) | (rw [if_neg (by omega)]), rfl, fin, fun x k q => eo x k (fun e => q (Or.inl (by omega))) (fun e => q (Or.inr (Or.inr ⟨e.1, by omega⟩))), fun x q1 q2 => by funext k; exact u2_o (by omega)⟩ dX11_keep_54
  · refine V_al0n dX11_keep_42 ?_
    refine V_getR kk0 (by decide) fl_X11_55 (fx_0_8 hρ) dX11_keep_43 ?_
    refine V_getI kk62 (by decide) fl_X11_210 (eo 62 10 (by omega) (by omega)) dX11_keep_46 ?_
    refine V_goto (tgt := 54) dX11_keep_49 rfl ?_
    exact V_ireturn rfl ⟨by first | (rw [if_pos (by omega), x10 (by omega)]) | (rw [if_neg (by omega)]), rfl, fin, fun x k q => eo x k (fun e => q (Or.inl (by omega))) (fun e => q (Or.inr (Or.inr ⟨e.1, by omega⟩))), fun x q1 q2 => by funext k; exact u2_o (by omega)⟩ dX11_keep_54
theorem c_back (hρ : Fx ρ) (hS : RSm T ρ f g φ γ) : C_X11_back [.ref 0] ρ f g (fun r ρ' f' g' => r = some (.int (iz (backA φ))) ∧ ρ' = ρ ∧ RSm T ρ f' g' (backF φ) (backG φ γ) ∧ RK f f' ∧ RG g g') := by
  have hS0 := hS
  obtain ⟨h1, h2, h3, h4, h5, h6, h7, h8⟩ := hS
  refine Ct.ofV (by decide) rfl (Nat.le_of_ble_eq_true rfl) ?_
  rcases h5.2 with c | c
  · have e1 : backF φ = φ := by unfold backF; rw [if_neg (by omega)]
    have e2 : backG φ γ = γ := by unfold backG; rw [if_neg (by omega)]
    have e3 : backA φ = -1 := by unfold backA; rw [if_neg (by omega)]
    rw [e1, e2, e3]
    refine V_al0n dX11_back_0 ?_
    refine V_getZ kk0 (by decide) fl_X11_69 (h5.1.trans c) dX11_back_1 ?_
    refine V_if_ne (tgt := 9) dX11_back_4 rfl (by first | assumption | (unfold ri at *; omega)) (fun b4 => ?_) (fun b4 => ?_)
    · exact absurd rfl b4
    · refine V_iconst dX11_back_7 ?_
      exact V_ireturn rfl ⟨rfl, rfl, hS0, fun _ _ _ => rfl, fun _ _ _ => rfl⟩ dX11_back_8
  · obtain ⟨i1, i2, i3, i4, i5⟩ := h6 c
    have e2 : backG φ γ = u2 γ 104 69 (γ 104 102) := by unfold backG; rw [if_pos c]
    have e3 : backA φ = if φ 104 98 = 1 then φ 147 0 else -2 := by unfold backA; rw [if_pos c]
    rw [e2, e3]
    have eo : ∀ x k, x ≠ 62 → ¬ (x = 0 ∧ (k = 5 ∨ k = 6 ∨ k = 10)) → u2 (u2 (u2 (takF 62 64 f) 0 5 (φ 104 103)) 0 6 (φ 104 104)) 0 10 0 x k = f x k := fun x k q1 q2 => by rw [u2_o (by omega), u2_o (by omega), u2_o (by omega), takF_o q1]
    have ew : ∀ k, k < 14 → u2 (u2 (u2 (takF 62 64 f) 0 5 (φ 104 103)) 0 6 (φ 104 104)) 0 10 0 62 k = f 64 k := fun k hk => by rw [u2_o (by omega), u2_o (by omega), u2_o (by omega), takF_w hk]
    have fin : RSm T ρ (u2 (u2 (u2 (takF 62 64 f) 0 5 (φ 104 103)) 0 6 (φ 104 104)) 0 10 0) (u2 g 62 14 (g 64 14)) (backF φ) (u2 γ 104 69 (γ 104 102)) := by
      have P : ∀ x k, backF φ x k = if x = 104 ∧ k = 82 then 0 else if x = 104 ∧ k = 68 then φ 104 104 else if x = 104 ∧ k = 67 then φ 104 103 else if x = 137 ∧ k < 7 then φ 147 k else if x = 104 ∧ k = 80 then φ 104 100 else if x = 104 ∧ k = 79 then φ 104 99 else if x = 104 ∧ k = 78 then φ 104 98 else φ x k := fun x k => by
        unfold backF
        rw [if_pos c]
        unfold cpR
        simp only [u2]
        by_cases c1 : x = 104 ∧ k = 82
        · simp [c1]
        by_cases c2 : x = 104 ∧ k = 68
        · simp [c2]
        by_cases c3 : x = 104 ∧ k = 67
        · simp [c3]
        by_cases c4 : x = 137 ∧ k < 7
        · simp [c4]
        simp [c1, c2, c3, c4]
      generalize backF φ = Φ at P
      have po : ∀ x k, x ≠ 137 → ¬ (x = 104 ∧ (k = 67 ∨ k = 68 ∨ 78 ≤ k ∧ k ≤ 82)) → Φ x k = φ x k := fun x k q1 q2 => by rw [P, if_neg (by omega), if_neg (by omega), if_neg (by omega), if_neg (by omega), if_neg (by omega), if_neg (by omega), if_neg (by omega)]
      have y82 : Φ 104 82 = 0 := by rw [P]; simp
      have y78 : Φ 104 78 = φ 104 98 := by rw [P]; simp
      have y79 : Φ 104 79 = φ 104 99 := by rw [P]; simp
      have y80 : Φ 104 80 = φ 104 100 := by rw [P]; simp
      have y67 : Φ 104 67 = φ 104 103 := by rw [P]; simp
      have y68 : Φ 104 68 = φ 104 104 := by rw [P]; simp
      have y137 : ∀ i, i < 7 → Φ 137 i = φ 147 i := fun i hi => by rw [P]; simp [hi]
      unfold RSm
      rw [y78, y79, y80, y82, po 104 97 (by omega) (by omega), po 104 98 (by omega) (by omega), po 104 99 (by omega) (by omega), po 104 100 (by omega) (by omega), po 104 103 (by omega) (by omega), po 104 104 (by omega) (by omega), y67, y68, u2_s, u2_o (show ¬ (104 = 104 ∧ 102 = 69) by omega), eo 0 12 (by omega) (by omega), eo 0 13 (by omega) (by omega), eo 0 14 (by omega) (by omega)]
      refine ⟨?_, ⟨by first | rfl | exact u2_s, by omega, fun q => by omega⟩, h3, fun v hv => by omega, h5, fun q => ⟨?_, (h6 q).2⟩, ⟨?_, i3⟩, ⟨?_, i5⟩⟩
      · refine WR.cr (r := φ 147) ?_ y137
        exact (i1.tak (w := 62) (fun k hk => takF_w hk)).cg (fun k => by rw [u2_o (by omega), u2_o (by omega), u2_o (by omega)]) rfl
      · exact ((h6 q).1.cg (fun k => eo 64 k (by omega) (by omega)) (u2_o (by omega))).cr (fun i hi => po 147 i (by omega) (by omega))
      · rw [u2_o (by omega), u2_o (by omega), u2_s]
      · rw [u2_o (by omega), u2_s]
    have z0 := i1.2.2.1
    have x10 : φ 104 98 = 1 → f 64 10 = φ 147 0 := fun q => (i1.2.2.2.2 q).2.2.2.2.2.2.2.2.2.2.1
    refine V_al0n dX11_back_0 ?_
    refine V_getZ kk0 (by decide) fl_X11_69 (h5.1.trans c) dX11_back_1 ?_
    refine V_if_ne (tgt := 9) dX11_back_4 rfl (by first | assumption | (unfold ri at *; omega)) (fun b4 => ?_) (fun b4 => ?_)
    · refine V_al0n dX11_back_9 ?_
      refine V_getR kk0 (by decide) fl_X11_55 (fx_0_8 hρ) dX11_back_10 ?_
      refine V_al0n dX11_back_13 ?_
      refine V_getR kk0 (by decide) fl_X11_66 (fx_0_11 hρ) dX11_back_14 ?_
      refine V_callV (as := [_]) ml_X11_237 im_X10_take se_X10_take kk62 (by decide) (by decide) dX11_back_17 rfl rfl (by decide) (by decide) (Nat.le_of_ble_eq_true rfl) (by decide) (by decide) rfl (c_take (w := 62) (v := 64) rfl rfl (by omega) (by rw [i1.1]; exact z0)) ?_
      refine pq4 ?_
      refine V_al0n dX11_back_20 ?_
      refine V_al0n dX11_back_21 ?_
      refine V_getI kk0 (by decide) fl_X11_72 ((takF_o (by omega)).trans i2) dX11_back_22 ?_
      refine V_putI kk0 (by decide) fl_X11_36 rfl dX11_back_25 ?_
      refine V_al0n dX11_back_28 ?_
      refine V_al0n dX11_back_29 ?_
      refine V_getZ kk0 (by decide) fl_X11_75 ((u2_o (by omega)).trans ((takF_o (by omega)).trans i4)) dX11_back_30 ?_
      refine V_putZ kk0 (by decide) fl_X11_39 rfl i5 dX11_back_33 ?_
      refine V_al0n dX11_back_36 ?_
      refine V_iconst dX11_back_37 ?_
      refine V_putI kk0 (by decide) fl_X11_63 rfl dX11_back_38 ?_
      refine V_al0n dX11_back_41 ?_
      refine V_getR kk0 (by decide) fl_X11_55 (fx_0_8 hρ) dX11_back_42 ?_
      refine V_getZ kk62 (by decide) fl_X11_122 ((ew 0 (by omega)).trans i1.1) dX11_back_45 ?_
      refine V_if_eq (tgt := 61) dX11_back_48 rfl (by unfold ri; omega) (fun b48 => ?_) (fun b48 => ?_)
      · refine V_bipush dX11_back_61 rfl ?_
        exact V_ireturn rfl ⟨by first | (rw [if_pos (by omega), x10 (by omega)]) | (rw [if_neg (by omega)]), rfl, fin, fun x k q => eo x k (fun e => q (Or.inl (by omega))) (fun e => q (Or.inr (Or.inr ⟨e.1, by omega⟩))), fun x q1 q2 => by funext k; exact u2_o (by omega)⟩ dX11_back_63
      · refine V_al0n dX11_back_51 ?_
        refine V_getR kk0 (by decide) fl_X11_55 (fx_0_8 hρ) dX11_back_52 ?_
        refine V_getI kk62 (by decide) fl_X11_210 (ew 10 (by omega)) dX11_back_55 ?_
        refine V_goto (tgt := 63) dX11_back_58 rfl ?_
        exact V_ireturn rfl ⟨by first | (rw [if_pos (by omega), x10 (by omega)]) | (rw [if_neg (by omega)]), rfl, fin, fun x k q => eo x k (fun e => q (Or.inl (by omega))) (fun e => q (Or.inr (Or.inr ⟨e.1, by omega⟩))), fun x q1 q2 => by funext k; exact u2_o (by omega)⟩ dX11_back_63
    · exfalso; omega
end RACE4

