section GO
variable {T : TT} {b : Nat} {ρ : RT} {f : IT} {g : JT} {φ : IT} {γ : JT}
def rotR (ρ : RT) (i : Nat) : RT := fun a k => if a = 63 ∧ k + 1 < i then ρ 63 (k + 1) else ρ a k
theorem rotR_1 {ρ : RT} : rotR ρ 1 = ρ := by funext a k; unfold rotR; rw [if_neg (by omega)]
theorem rotR_s {ρ : RT} {i : Nat} (hi : 1 ≤ i) {x : Option Nat} (hx : x = ρ 63 i) : u2 (rotR ρ i) 63 (i - 1) x = rotR ρ (i + 1) := by
  funext a k
  unfold u2 rotR
  by_cases c : a = 63 ∧ k = i - 1
  · rw [if_pos c, if_pos (by omega), hx, show k + 1 = i by omega]
  · rw [if_neg c]
    by_cases c2 : a = 63 ∧ k + 1 < i
    · rw [if_pos c2, if_pos (by omega)]
    · rw [if_neg c2, if_neg (by omega)]
theorem w_rot {Q : QT} {ρ0 : RT} (hρ : Fx ρ0) (hP : PI ρ0) {a0 : Nat} (ha0 : 84 ≤ a0 ∧ a0 ≤ 103) (hX : V_X11_remember Q 58 [.ref 0, .null, .null] [] (u2 (rotR ρ0 20) 63 19 (some a0)) (u2 f 0 10 19) g) (i : Nat) (hi : 1 ≤ i ∧ i ≤ 20) : V_X11_remember Q 18 [.ref 0, .ref a0, .int (iz (i : Int))] [] (rotR ρ0 i) f g := by
  have hfx : Fx (rotR ρ0 i) := hρ.cg (fun a k h1 _ _ _ => by unfold rotR; rw [if_neg (by omega)])
  have ka0 := kdW (a := a0) (by omega)
  by_cases e : i = 20
  · subst e
    refine V_il2n dX11_remember_18 ?_
    refine V_bipush dX11_remember_19 rfl ?_
    refine V_icmp_ge (tgt := 44) dX11_remember_21 rfl (by first | assumption | (unfold ri at *; omega)) (by first | assumption | (unfold ri at *; omega)) (fun b21 => ?_) (fun b21 => ?_)
    · refine V_al0n dX11_remember_44 ?_
      refine V_getR kk0 (by decide) fl_X11_59 (fx_0_9 hfx) dX11_remember_45 ?_
      refine V_bipush dX11_remember_48 rfl ?_
      refine V_al1n dX11_remember_50 ?_
      refine V_aast (k := 19) kk63 (by decide) ka0 (by decide) (kdlt ka0 (by decide)) (by first | rfl | omega) (by omega) (by decide) dX11_remember_51 ?_
      refine V_al0n dX11_remember_52 ?_
      refine V_bipush dX11_remember_53 rfl ?_
      refine V_putI kk0 (by decide) fl_X11_63 rfl dX11_remember_55 ?_
      exact V_weak (by repeat (first | exact wk_n | refine wk_c (Or.inr rfl) ?_ | refine wk_c (Or.inl rfl) ?_)) hX
    · exfalso; omega
  · obtain ⟨a, ha, har⟩ := hP.1 i (by omega)
    have ka := kdW (a := a) (by omega)
    have hra : rotR ρ0 i 63 i = some a := by unfold rotR; rw [if_neg (by omega)]; exact ha
    refine V_il2n dX11_remember_18 ?_
    refine V_bipush dX11_remember_19 rfl ?_
    refine V_icmp_ge (tgt := 44) dX11_remember_21 rfl (by first | assumption | (unfold ri at *; omega)) (by first | assumption | (unfold ri at *; omega)) (fun b21 => ?_) (fun b21 => ?_)
    · exfalso; omega
    · refine V_al0n dX11_remember_24 ?_
      refine V_getR kk0 (by decide) fl_X11_59 (fx_0_9 hfx) dX11_remember_25 ?_
      refine V_il2n dX11_remember_28 ?_
      refine V_iconst dX11_remember_29 ?_
      refine V_isub dX11_remember_30 ?_
      refine V_al0n dX11_remember_31 ?_
      refine V_getR kk0 (by decide) fl_X11_59 (fx_0_9 hfx) dX11_remember_32 ?_
      refine V_il2n dX11_remember_35 ?_
      refine V_aald (k := i) kk63 (by decide) (by decide) (by first | rfl | omega) (by omega) (by decide) hra dX11_remember_36 ?_
      refine V_aast (k := (i - 1)) kk63 (by decide) ka (by decide) (kdlt ka (by decide)) (by omega) (by omega) (by decide) dX11_remember_37 ?_
      refine V_inc2 dX11_remember_38 (by decide) rfl ?_
      refine V_goto (tgt := 18) dX11_remember_41 rfl ?_
      rw [rotR_s hi.1 ha.symm]
      exact w_rot hρ hP ha0 hX (i + 1) (by omega)
termination_by 20 - i
/-- the next place of the past is free: taken -/
theorem w_rem58 {Q : QT} {u : Nat} (hu : u < 20) (hρ : Fx ρ) {a : Nat} (ha : ρ 63 u = some a) (har : 84 ≤ a ∧ a ≤ 103) (h10 : f 0 10 = (u : Int)) (h0 : f 62 0 = 0 ∨ f 62 0 = 1) (hQ : Q none ρ (u2 (takF a 62 f) 0 10 ((u : Int) + 1)) (u2 g a 14 (g 62 14))) : V_X11_remember Q 58 [.ref 0, .null, .null] [] ρ f g := by
  have ka := kdW (a := a) (by omega)
  refine V_al0n dX11_remember_58 ?_
  refine V_getI kk0 (by decide) fl_X11_63 h10 dX11_remember_59 ?_
  refine V_if_lt (tgt := 91) dX11_remember_62 rfl (by unfold ri; omega) (fun b62 => ?_) (fun b62 => ?_)
  · exfalso; omega
  · refine V_al0n dX11_remember_65 ?_
    refine V_getR kk0 (by decide) fl_X11_59 (fx_0_9 hρ) dX11_remember_66 ?_
    refine V_al0n dX11_remember_69 ?_
    refine V_getI kk0 (by decide) fl_X11_63 h10 dX11_remember_70 ?_
    refine V_aald (k := u) kk63 (by decide) (by decide) (by first | rfl | omega) (by omega) (by decide) ha dX11_remember_73 ?_
    refine V_al0n dX11_remember_74 ?_
    refine V_getR kk0 (by decide) fl_X11_55 (fx_0_8 hρ) dX11_remember_75 ?_
    refine V_callV (as := [_]) ml_X11_237 im_X10_take se_X10_take ka (by decide) (kdlt ka (by decide)) dX11_remember_78 rfl rfl (by decide) (by decide) (Nat.le_of_ble_eq_true rfl) (by decide) (by decide) rfl (c_take (w := a) (v := 62) ka rfl (by omega) h0) ?_
    refine pq4 ?_
    refine V_al0n dX11_remember_81 ?_
    refine V_dup dX11_remember_82 rfl ?_
    refine V_getI kk0 (by decide) fl_X11_63 ((takF_o (by omega)).trans h10) dX11_remember_83 ?_
    refine V_iconst dX11_remember_86 ?_
    refine V_iadd dX11_remember_87 ?_
    refine V_putI kk0 (by decide) fl_X11_63 rfl dX11_remember_88 ?_
    exact V_return rfl hQ dX11_remember_91
theorem remF_138 {d : Int} (h82 : 0 ≤ φ 104 82 ∧ φ 104 82 ≤ 20) {v i : Nat} (hi : i < 8) : (φ 104 82 < 20 → (v : Int) < φ 104 82 → remF d φ 138 (8 * v + i) = φ 138 (8 * v + i)) ∧ (φ 104 82 < 20 → (v : Int) = φ 104 82 → remF d φ 138 (8 * v + i) = if i = 7 then d else φ 137 i) ∧ (φ 104 82 = 20 → v < 19 → remF d φ 138 (8 * v + i) = φ 138 (8 * (v + 1) + i)) ∧ (φ 104 82 = 20 → v = 19 → remF d φ 138 (8 * v + i) = if i = 7 then d else φ 137 i) := by
  refine ⟨fun h1 h2 => ?_, fun h1 h2 => ?_, fun h1 h2 => ?_, fun h1 h2 => ?_⟩
  · unfold remF
    rw [if_neg (by omega), u2_o (by omega), u2_o (by omega)]
    unfold cpU
    rw [if_neg (by omega)]
  · unfold remF
    rw [if_neg (by omega), u2_o (by omega), show (φ 104 82).toNat = v by omega]
    by_cases e : i = 7
    · subst e; rw [u2_s]; rfl
    · rw [u2_o (by omega), if_neg e]
      unfold cpU
      rw [if_pos (by omega)]
      congr 1
      omega
  · unfold remF
    rw [if_pos h1, u2_o (by omega), u2_o (by omega)]
    unfold cpU
    rw [if_neg (by omega), u2_o (by omega)]
    unfold shU
    rw [if_pos (by omega)]
    congr 1
    omega
  · unfold remF
    subst h2
    rw [if_pos h1, u2_o (by omega)]
    by_cases e : i = 7
    · subst e; rw [u2_s]; rfl
    · rw [u2_o (by omega), if_neg e]
      unfold cpU
      rw [if_pos (by omega), u2_o (by omega)]
      unfold shU
      rw [if_neg (by omega)]
      rw [show 8 * 19 + i - 8 * 19 = i by omega]
theorem remF_82 {d : Int} : remF d φ 104 82 = if φ 104 82 = 20 then 20 else φ 104 82 + 1 := by
  unfold remF
  split
  · rw [u2_s]
  · rw [u2_s]
theorem c_cremember (hρ : Fx ρ) (hS : RSm T ρ f g φ γ) (g78 : φ 104 78 = 1) : C_X11_remember [.ref 0] ρ f g (fun r ρ' f' g' => r = none ∧ RSm T ρ' f' g' (remF (γ 104 69) φ) γ ∧ (∀ a k, a ≠ 63 → ρ' a k = ρ a k) ∧ (∀ a k, ¬ (84 ≤ a ∧ a ≤ 103) → ¬ (a = 0 ∧ k = 10) → f' a k = f a k) ∧ ∀ a, ¬ (84 ≤ a ∧ a ≤ 103) → g' a = g a) := by
  have hS0 := hS
  obtain ⟨h1, h2, h3, h4, h5, h6, h7, h8⟩ := hS
  have z0 : f 62 0 = 0 ∨ f 62 0 = 1 := Or.inr (h1.1.trans g78)
  have po : ∀ x k, x ≠ 138 → ¬ (x = 104 ∧ k = 82) → remF (γ 104 69) φ x k = φ x k := fun x k q1 q2 => remF_o q1 q2
  -- the new likeness, by which walk is the newest
  have fin : ∀ (ρ' : RT) (a u : Nat), PI ρ' → ρ' 63 u = some a → 84 ≤ a ∧ a ≤ 103 → u < 20 → remF (γ 104 69) φ 104 82 = (u : Int) + 1 → (∀ v, v < u → ∀ x, ρ' 63 v = some x → x ≠ a ∧ (84 ≤ x ∧ x ≤ 103) ∧ WR T x 1 (φ 104 79) (φ 104 80) (fun i => remF (γ 104 69) φ 138 (8 * v + i)) (remF (γ 104 69) φ 138 (8 * v + 7)) f g) → (∀ i, i < 8 → remF (γ 104 69) φ 138 (8 * u + i) = if i = 7 then γ 104 69 else φ 137 i) → ∀ F : IT, (∀ x k, ¬ (x = 0 ∧ k = 10) → F x k = f x k) → RSm T ρ' (u2 (takF a 62 F) 0 10 ((u : Int) + 1)) (u2 g a 14 (g 62 14)) (remF (γ 104 69) φ) γ := fun ρ' a u hP ha har hu h82 hold hnew F hF => by
    have eo : ∀ x k, x ≠ a → ¬ (x = 0 ∧ k = 10) → u2 (takF a 62 F) 0 10 ((u : Int) + 1) x k = f x k := fun x k q1 q2 => by rw [u2_o q2, takF_o q1, hF x k q2]
    have hww : ∀ {x on m p d r}, x ≠ a → x ≠ 0 → WR T x on m p r d f g → WR T x on m p r d (u2 (takF a 62 F) 0 10 ((u : Int) + 1)) (u2 g a 14 (g 62 14)) := fun hx h0 hw => hw.cg (fun k => eo _ k hx (fun e => h0 e.1)) (u2_o (by omega))
    unfold RSm
    rw [po 104 78 (by omega) (by omega), po 104 79 (by omega) (by omega), po 104 80 (by omega) (by omega), h82, po 104 97 (by omega) (by omega), po 104 98 (by omega) (by omega), po 104 99 (by omega) (by omega), po 104 100 (by omega) (by omega), po 104 103 (by omega) (by omega), po 104 104 (by omega) (by omega), po 104 67 (by omega) (by omega), po 104 68 (by omega) (by omega), eo 0 12 (by omega) (by omega), eo 0 13 (by omega) (by omega), eo 0 14 (by omega) (by omega), eo 0 5 (by omega) (by omega), eo 0 6 (by omega) (by omega)]
    refine ⟨(hww (by omega) (by omega) h1).cr (fun i hi => po 137 i (by omega) (by omega)), ⟨u2_s, by omega, fun _ => g78⟩, hP, fun v hv x hx => ?_, h5, fun q => ⟨((hww (by omega) (by omega) (h6 q).1)).cr (fun i hi => po 147 i (by omega) (by omega)), (h6 q).2⟩, h7, h8⟩
    by_cases e : v = u
    · subst e
      rw [ha] at hx
      cases hx
      have h1' := h1
      rw [g78] at h1'
      have ht := ((h1'.cg (f' := F) (g' := g) (fun k => hF 62 k (by omega)) rfl).tak (w := a) (fun k hk => takF_w hk)).cg (f' := u2 (takF a 62 F) 0 10 ((v : Int) + 1)) (g' := u2 g a 14 (g 62 14)) (fun k => u2_o (by omega)) rfl
      have e7 := hnew 7 (by omega)
      rw [if_pos rfl] at e7
      rw [e7]
      exact ht.cr (fun i hi => by have := hnew i (by omega); rw [if_neg (by omega)] at this; exact this)
    · obtain ⟨k1, k2, k3⟩ := hold v (by omega) x hx
      exact hww k1 (by omega) k3
  refine Ct.ofV (by decide) rfl (Nat.le_of_ble_eq_true rfl) ?_
  by_cases c : φ 104 82 = 20
  · obtain ⟨a0, ha0, har0⟩ := h3.1 0 (by omega)
    have ka0 := kdW (a := a0) (by omega)
    have hPI : PI (u2 (rotR ρ 20) 63 19 (some a0)) := by
      have v : ∀ i, i < 20 → u2 (rotR ρ 20) 63 19 (some a0) 63 i = if i = 19 then some a0 else ρ 63 (i + 1) := fun i hi => by
        by_cases e : i = 19
        · rw [e, u2_s, if_pos rfl]
        · rw [u2_o (by omega), if_neg e]; unfold rotR; rw [if_pos (by omega)]
      refine ⟨fun i hi => ?_, fun i j a hi hj h1 h2 => ?_⟩
      · rw [v i hi]
        split
        · exact ⟨a0, rfl, har0⟩
        · exact h3.1 (i + 1) (by omega)
      · rw [v i hi] at h1
        rw [v j hj] at h2
        by_cases e1 : i = 19 <;> by_cases e2 : j = 19
        · omega
        · rw [if_pos e1] at h1
          rw [if_neg e2] at h2
          cases h1
          have := h3.2 0 (j + 1) a0 (by omega) (by omega) ha0 h2
          omega
        · rw [if_neg e1] at h1
          rw [if_pos e2] at h2
          cases h2
          have := h3.2 0 (i + 1) a0 (by omega) (by omega) ha0 h1
          omega
        · rw [if_neg e1] at h1
          rw [if_neg e2] at h2
          have := h3.2 (i + 1) (j + 1) a (by omega) (by omega) h1 h2
          omega
    have hfx2 : Fx (u2 (rotR ρ 20) 63 19 (some a0)) := hρ.cg (fun a k q1 _ _ _ => by rw [u2_o (by omega)]; unfold rotR; rw [if_neg (by omega)])
    have hr := fin (u2 (rotR ρ 20) 63 19 (some a0)) a0 19 hPI u2_s har0 (by omega) (by rw [remF_82, if_pos c]; rfl) (fun v hv x hx => by
      rw [u2_o (by omega)] at hx
      unfold rotR at hx
      rw [if_pos (by omega)] at hx
      obtain ⟨x', hx', hr⟩ := h3.1 (v + 1) (by omega)
      rw [hx] at hx'
      cases hx'
      refine ⟨fun e => ?_, hr, ?_⟩
      · subst e
        have := h3.2 0 (v + 1) x (by omega) (by omega) ha0 hx
        omega
      · have hw := h4 (v + 1) (by omega) x hx
        have e7 := ((remF_138 (d := γ 104 69) h2.2.1 (v := v) (i := 7) (by omega)).2.2.1 c hv)
        rw [e7]
        exact hw.cr (fun i hi => (remF_138 (d := γ 104 69) h2.2.1 (v := v) (i := i) (by omega)).2.2.1 c hv)) (fun i hi => (remF_138 (d := γ 104 69) h2.2.1 (v := 19) (i := i) hi).2.2.2 c rfl) (u2 f 0 10 19) (fun x k q => u2_o q)
    have f10 : f 0 10 = 20 := h2.1.trans c
    refine V_al0n dX11_remember_0 ?_
    refine V_getI kk0 (by decide) fl_X11_63 f10 dX11_remember_1 ?_
    refine V_bipush dX11_remember_4 rfl ?_
    refine V_icmp_lt (tgt := 58) dX11_remember_6 rfl (by first | assumption | (unfold ri at *; omega)) (by first | assumption | (unfold ri at *; omega)) (fun b6 => ?_) (fun b6 => ?_)
    · exfalso; omega
    · refine V_al0n dX11_remember_9 ?_
      refine V_getR kk0 (by decide) fl_X11_59 (fx_0_9 hρ) dX11_remember_10 ?_
      refine V_iconst dX11_remember_13 ?_
      refine V_aald (k := 0) kk63 (by decide) (by decide) (by first | rfl | omega) (by omega) (by decide) ha0 dX11_remember_14 ?_
      refine V_as1n dX11_remember_15 (by decide) rfl ?_
      refine V_iconst dX11_remember_16 ?_
      refine V_is2n dX11_remember_17 (by decide) rfl ?_
      have hw := w_rot (Q := fun r ρ' f' g' => r = none ∧ RSm T ρ' f' g' (remF (γ 104 69) φ) γ ∧ (∀ a k, a ≠ 63 → ρ' a k = ρ a k) ∧ (∀ a k, ¬ (84 ≤ a ∧ a ≤ 103) → ¬ (a = 0 ∧ k = 10) → f' a k = f a k) ∧ ∀ a, ¬ (84 ≤ a ∧ a ≤ 103) → g' a = g a) (f := f) (g := g) hρ h3 har0 (w_rem58 (u := 19) (by omega) hfx2 u2_s har0 u2_s (by rw [u2_o (by omega)]; exact z0) ⟨rfl, hr, fun x k q => by rw [u2_o (by omega)]; unfold rotR; rw [if_neg (by omega)], fun x k q1 q2 => by rw [u2_o q2, takF_o (by omega), u2_o q2], fun x q => by funext k; exact u2_o (by omega)⟩) 1 (by omega)
      rw [rotR_1] at hw
      exact hw
  · obtain ⟨u, hu⟩ : ∃ u : Nat, φ 104 82 = (u : Int) := ⟨(φ 104 82).toNat, by omega⟩
    obtain ⟨a, ha, har⟩ := h3.1 u (by omega)
    have f10 : f 0 10 = (u : Int) := h2.1.trans hu
    have hr := fin ρ a u h3 ha har (by omega) (by rw [remF_82, if_neg c, hu]) (fun v hv x hx => by
      obtain ⟨x', hx', hr⟩ := h3.1 v (by omega)
      rw [hx] at hx'
      cases hx'
      refine ⟨fun e => ?_, hr, ?_⟩
      · subst e
        have := h3.2 u v x (by omega) (by omega) ha hx
        omega
      · have hw := h4 v (by omega) x hx
        have e7 := ((remF_138 (d := γ 104 69) h2.2.1 (v := v) (i := 7) (by omega)).1 (by omega) (by omega))
        rw [e7]
        exact hw.cr (fun i hi => (remF_138 (d := γ 104 69) h2.2.1 (v := v) (i := i) (by omega)).1 (by omega) (by omega))) (fun i hi => (remF_138 (d := γ 104 69) h2.2.1 (v := u) (i := i) hi).2.1 (by omega) (by omega)) f (fun x k q => rfl)
    refine V_al0n dX11_remember_0 ?_
    refine V_getI kk0 (by decide) fl_X11_63 f10 dX11_remember_1 ?_
    refine V_bipush dX11_remember_4 rfl ?_
    refine V_icmp_lt (tgt := 58) dX11_remember_6 rfl (by unfold ri; omega) (by unfold ri; omega) (fun b6 => ?_) (fun b6 => ?_)
    · exact w_rem58 (u := u) (by omega) hρ ha har f10 z0 ⟨rfl, hr, fun _ _ _ => rfl, fun x k q1 q2 => by rw [u2_o q2, takF_o (by omega)], fun x q => by funext k; exact u2_o (by omega)⟩
    · exfalso; omega
end GO

