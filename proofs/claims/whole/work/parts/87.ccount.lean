section COUNT
variable {T : TT} {b : Nat} {ρ : RT} {f : IT} {g : JT} {φ : IT} {γ : JT}
theorem c_sack (hS : RSm T ρ f g φ γ) {n : Int} (rn_ : ri n) : C_X11_sack [.ref 0, .int (iz n)] ρ f g (fun r ρ' f' g' => r = some (.int (iz (bz (zin n 0 30)))) ∧ ρ' = ρ ∧ RSm T ρ f' g' (sackF n φ) γ ∧ RK f f' ∧ g' = g) := by
  refine Ct.ofV (by decide) rfl (Nat.le_of_ble_eq_true rfl) ?_
  by_cases c : 0 ≤ n ∧ n ≤ 30
  · have ez : zin n 0 30 = true := by unfold zin; simpa using c
    have ef : sackF n φ = u2 φ 104 67 n := by unfold sackF; rw [if_pos ez]
    rw [ez, ef]
    have fin : RSm T ρ (u2 f 0 5 n) g (u2 φ 104 67 n) γ := by
      have eo : ∀ a k, ¬ (a = 0 ∧ k = 5) → u2 f 0 5 n a k = f a k := fun a k q => u2_o q
      have po : ∀ a k, ¬ (a = 104 ∧ k = 67) → u2 φ 104 67 n a k = φ a k := fun a k q => u2_o q
      have r1 : u2 φ 104 67 n 137 = φ 137 := by funext k; exact po 137 k (by omega)
      have r2 : u2 φ 104 67 n 138 = φ 138 := by funext k; exact po 138 k (by omega)
      have r3 : u2 φ 104 67 n 147 = φ 147 := by funext k; exact po 147 k (by omega)
      obtain ⟨h1, h2, h3, h4, h5, h6, h7, h8⟩ := hS
      unfold RSm
      rw [po 104 78 (by omega), po 104 79 (by omega), po 104 80 (by omega), po 104 82 (by omega), po 104 97 (by omega), po 104 98 (by omega), po 104 99 (by omega), po 104 100 (by omega), po 104 103 (by omega), po 104 104 (by omega), u2_s, po 104 68 (by omega), r1, r2, r3, eo 0 10 (by omega), eo 0 12 (by omega), eo 0 13 (by omega), eo 0 14 (by omega), u2_s, eo 0 6 (by omega)]
      refine ⟨h1.cg (fun k => eo 62 k (by omega)) rfl, h2, h3, fun u hu a ha => (h4 u hu a ha).cg (fun k => eo a k ?_) rfl, h5, fun q => ⟨(h6 q).1.cg (fun k => eo 64 k (by omega)) rfl, (h6 q).2⟩, ⟨rfl, c⟩, h8⟩
      obtain ⟨a', ha', hr⟩ := h3.1 u (by omega)
      rw [ha] at ha'
      cases ha'
      omega
    refine V_il1n dX11_sack_0 ?_
    refine V_if_lt (tgt := 10) dX11_sack_1 rfl (by first | assumption | (unfold ri at *; omega)) (fun b1 => ?_) (fun b1 => ?_)
    · exfalso; omega
    · refine V_il1n dX11_sack_4 ?_
      refine V_bipush dX11_sack_5 rfl ?_
      refine V_icmp_le (tgt := 12) dX11_sack_7 rfl (by first | assumption | (unfold ri at *; omega)) (by first | assumption | (unfold ri at *; omega)) (fun b7 => ?_) (fun b7 => ?_)
      · refine V_al0n dX11_sack_12 ?_
        refine V_il1n dX11_sack_13 ?_
        refine V_putI kk0 (by decide) fl_X11_36 rfl dX11_sack_14 ?_
        refine V_iconst dX11_sack_17 ?_
        exact V_zreturn rfl (by first | exact Or.inl rfl | exact Or.inr rfl | (unfold bz; split <;> simp)) ⟨rfl, rfl, fin, fun a k q => u2_o (fun e => q (Or.inr (Or.inr ⟨e.1, by omega⟩))), rfl⟩ dX11_sack_18
      · exfalso; omega
  · have ez : zin n 0 30 = false := by unfold zin; simp; omega
    have ef : sackF n φ = φ := by unfold sackF; rw [ez]; rfl
    rw [ez, ef]
    refine V_il1n dX11_sack_0 ?_
    refine V_if_lt (tgt := 10) dX11_sack_1 rfl (by first | assumption | (unfold ri at *; omega)) (fun b1 => ?_) (fun b1 => ?_)
    · refine V_iconst dX11_sack_10 ?_
      exact V_zreturn rfl (by first | exact Or.inl rfl | exact Or.inr rfl | (unfold bz; split <;> simp)) ⟨rfl, rfl, hS, fun _ _ _ => rfl, rfl⟩ dX11_sack_11
    · refine V_il1n dX11_sack_4 ?_
      refine V_bipush dX11_sack_5 rfl ?_
      refine V_icmp_le (tgt := 12) dX11_sack_7 rfl (by first | assumption | (unfold ri at *; omega)) (by first | assumption | (unfold ri at *; omega)) (fun b7 => ?_) (fun b7 => ?_)
      · exfalso; omega
      · refine V_iconst dX11_sack_10 ?_
        exact V_zreturn rfl (by first | exact Or.inl rfl | exact Or.inr rfl | (unfold bz; split <;> simp)) ⟨rfl, rfl, hS, fun _ _ _ => rfl, rfl⟩ dX11_sack_11
theorem w_rain (hW : TW T b ρ) (hC : CT T b f) {ra : Bool} (h6r : f 0 6 = bz ra) {Q : QT} (hX : Q (some (.int (iz (dmS T ra)))) ρ f g) (i : Nat) (hi : i ≤ nLa T) : V_X11_rain Q 9 [.ref 0, .int (iz (bz ra)), .int (iz (sumTo (fun k => bz (dmp T ra k)) i)), .int (iz (i : Int))] [] ρ f g := by
  have hk := hW.2.2.2.2.1
  have hb := hW.2.1
  have hρ := hW.1
  have h6 := hk.la
  have e12 : T 104 (12 + 0) = (nLa T : Int) := h6.1
  by_cases e : i = nLa T
  · subst e
    refine V_il3n dX11_rain_9 ?_
    refine V_al0n dX11_rain_10 ?_
    refine V_getR kk0 (by decide) fl_X11_29 hW.2.2.1 dX11_rain_11 ?_
    refine V_iconst dX11_rain_14 ?_
    refine V_callV (as := [_]) ml_X11_271 im_X7_size se_X7_size (kb_0 hb) (by decide) (kl_0 hb) dX11_rain_15 rfl rfl (by decide) (by decide) (Nat.le_of_ble_eq_true rfl) (by decide) (by decide) rfl (c_size hρ hb hC (i := 0) (by omega)) ?_
    refine pq4 ?_
    refine V_icmp_ge (tgt := 51) dX11_rain_18 rfl (by unfold ri; omega) (by unfold ri; omega) (fun b18 => ?_) (fun b18 => ?_)
    · refine V_il2n dX11_rain_51 ?_
      exact V_ireturn rfl hX dX11_rain_52
    · exfalso; omega
  · have t3 := tat0 hk (i := i) (j := 3) (by omega) (by omega)
    simp [tcl] at t3
    have hln := hk.lane (k := i) (by omega)
    have nx : ∀ x : Int, x = bz (dmp T ra i) → V_X11_rain Q 9 [.ref 0, .int (iz (bz ra)), .int (iz (sumTo (fun k => bz (dmp T ra k)) i + x)), .int (iz ((i : Int) + 1))] [] ρ f g := fun x hx => by
      subst hx
      exact w_rain hW hC h6r hX (i + 1) (by omega)
    refine V_il3n dX11_rain_9 ?_
    refine V_al0n dX11_rain_10 ?_
    refine V_getR kk0 (by decide) fl_X11_29 hW.2.2.1 dX11_rain_11 ?_
    refine V_iconst dX11_rain_14 ?_
    refine V_callV (as := [_]) ml_X11_271 im_X7_size se_X7_size (kb_0 hb) (by decide) (kl_0 hb) dX11_rain_15 rfl rfl (by decide) (by decide) (Nat.le_of_ble_eq_true rfl) (by decide) (by decide) rfl (c_size hρ hb hC (i := 0) (by omega)) ?_
    refine pq4 ?_
    refine V_icmp_ge (tgt := 51) dX11_rain_18 rfl (by unfold ri; omega) (by unfold ri; omega) (fun b18 => ?_) (fun b18 => ?_)
    · exfalso; omega
    · refine V_il2n dX11_rain_21 ?_
      refine V_al0n dX11_rain_22 ?_
      refine V_getZ kk0 (by decide) fl_X11_39 h6r dX11_rain_23 ?_
      refine V_bt (tgt := 33) dX11_rain_26 rfl (fun b26 => ?_) (fun b26 => ?_)
      · refine V_al0n dX11_rain_33 ?_
        refine V_getR kk0 (by decide) fl_X11_29 hW.2.2.1 dX11_rain_34 ?_
        refine V_iconst dX11_rain_37 ?_
        refine V_il3n dX11_rain_38 ?_
        refine V_iconst dX11_rain_39 ?_
        refine V_callV (as := [_, _, _]) ml_X11_176 im_X7_at se_X7_at (kb_0 hb) (by decide) (kl_0 hb) dX11_rain_40 rfl rfl (by decide) (by decide) (Nat.le_of_ble_eq_true rfl) (by decide) (by decide) rfl (c_at hρ hb hC hk (i := 0) (by omega) (by unfold ri; omega) (by unfold ri; omega)) ?_
        refine pq4 ?_
        refine V_iadd dX11_rain_43 ?_
        refine V_is2n dX11_rain_44 (by decide) rfl ?_
        refine V_inc3 dX11_rain_45 (by decide) rfl ?_
        refine V_goto (tgt := 9) dX11_rain_48 rfl ?_
        exact nx _ (by unfold dmp; first | (rw [b26]; simp [bz]; done) | (rw [b26]; rw [t3]; rcases hln.2.2.2 with q | q <;> simp [q, bz]))
      · refine V_iconst dX11_rain_29 ?_
        refine V_goto (tgt := 43) dX11_rain_30 rfl ?_
        refine V_iadd dX11_rain_43 ?_
        refine V_is2n dX11_rain_44 (by decide) rfl ?_
        refine V_inc3 dX11_rain_45 (by decide) rfl ?_
        refine V_goto (tgt := 9) dX11_rain_48 rfl ?_
        exact nx _ (by unfold dmp; first | (rw [b26]; simp [bz]; done) | (rw [b26]; rw [t3]; rcases hln.2.2.2 with q | q <;> simp [q, bz]))
termination_by nLa T - i
theorem c_rain (hW : TW T b ρ) (hC : CT T b f) (hS : RSm T ρ f g φ γ) {ra : Bool} : C_X11_rain [.ref 0, .int (iz (bz ra))] ρ f g (fun r ρ' f' g' => r = some (.int (iz (dmS T ra))) ∧ ρ' = ρ ∧ RSm T ρ f' g' (u2 φ 104 68 (bz ra)) γ ∧ RK f f' ∧ g' = g) := by
  have hb := hW.2.1
  have fin : RSm T ρ (u2 f 0 6 (bz ra)) g (u2 φ 104 68 (bz ra)) γ := by
    have eo : ∀ a k, ¬ (a = 0 ∧ k = 6) → u2 f 0 6 (bz ra) a k = f a k := fun a k q => u2_o q
    have po : ∀ a k, ¬ (a = 104 ∧ k = 68) → u2 φ 104 68 (bz ra) a k = φ a k := fun a k q => u2_o q
    have r1 : u2 φ 104 68 (bz ra) 137 = φ 137 := by funext k; exact po 137 k (by omega)
    have r2 : u2 φ 104 68 (bz ra) 138 = φ 138 := by funext k; exact po 138 k (by omega)
    have r3 : u2 φ 104 68 (bz ra) 147 = φ 147 := by funext k; exact po 147 k (by omega)
    obtain ⟨h1, h2, h3, h4, h5, h6, h7, h8⟩ := hS
    unfold RSm
    rw [po 104 78 (by omega), po 104 79 (by omega), po 104 80 (by omega), po 104 82 (by omega), po 104 97 (by omega), po 104 98 (by omega), po 104 99 (by omega), po 104 100 (by omega), po 104 103 (by omega), po 104 104 (by omega), po 104 67 (by omega), u2_s, r1, r2, r3, eo 0 10 (by omega), eo 0 12 (by omega), eo 0 13 (by omega), eo 0 14 (by omega), eo 0 5 (by omega), u2_s]
    refine ⟨h1.cg (fun k => eo 62 k (by omega)) rfl, h2, h3, fun u hu a ha => (h4 u hu a ha).cg (fun k => eo a k ?_) rfl, h5, fun q => ⟨(h6 q).1.cg (fun k => eo 64 k (by omega)) rfl, (h6 q).2⟩, h7, ⟨rfl, bz_01 ra⟩⟩
    obtain ⟨a', ha', hr⟩ := h3.1 u (by omega)
    rw [ha] at ha'
    cases ha'
    omega
  refine Ct.ofV (by decide) rfl (Nat.le_of_ble_eq_true rfl) ?_
  refine V_al0n dX11_rain_0 ?_
  refine V_il1n dX11_rain_1 ?_
  refine V_putZ kk0 (by decide) fl_X11_39 rfl (bz_01 _) dX11_rain_2 ?_
  refine V_iconst dX11_rain_5 ?_
  refine V_is2n dX11_rain_6 (by decide) rfl ?_
  refine V_iconst dX11_rain_7 ?_
  refine V_is3n dX11_rain_8 (by decide) rfl ?_
  exact w_rain hW (hC.cg hb (fun a k h1 h2 => u2_o (by omega))) u2_s ⟨rfl, rfl, fin, fun a k q => u2_o (fun e => q (Or.inr (Or.inr ⟨e.1, by omega⟩))), rfl⟩ 0 (by omega)
theorem c_knownSize (hρ : Fx ρ) (hS : NSm T f φ) : C_X5_knownSize [.ref 73] ρ f g (fun r ρ' f' g' => r = some (.int (iz ((kB φ : Nat) : Int))) ∧ ρ' = ρ ∧ f' = f ∧ g' = g) := by
  obtain ⟨⟨k1, k2, k3⟩, h4, h5, h6⟩ := hS
  have ek : ((kB φ : Nat) : Int) = if φ 104 91 < 0 then φ 104 90 else φ 104 91 := by unfold kB; split <;> omega
  rw [ek]
  refine Ct.ofV (by decide) rfl (Nat.le_of_ble_eq_true rfl) ?_
  refine V_al0n dX5_knownSize_0 ?_
  refine V_getI kk73 (by decide) fl_X5_29 h5 dX5_knownSize_1 ?_
  refine V_iconst dX5_knownSize_4 ?_
  refine V_icmp_ne (tgt := 15) dX5_knownSize_5 rfl (by unfold ri; omega) (by unfold ri; omega) (fun b5 => ?_) (fun b5 => ?_)
  · refine V_al0n dX5_knownSize_15 ?_
    refine V_getI kk73 (by decide) fl_X5_29 h5 dX5_knownSize_16 ?_
    refine V_al0n dX5_knownSize_19 ?_
    refine V_getI kk73 (by decide) fl_X5_25 h4 dX5_knownSize_20 ?_
    refine V_mmin ml_X5_54 sm_J9_min_7cf53 dX5_knownSize_23 (by unfold ri; omega) (by unfold ri; omega) (by decide) (Nat.le_of_ble_eq_true rfl) (by decide) (by decide) ?_
    exact V_ireturn rfl ⟨by congr 3; (repeat' split) <;> omega, rfl, rfl, rfl⟩ dX5_knownSize_26
  · refine V_al0n dX5_knownSize_8 ?_
    refine V_getI kk73 (by decide) fl_X5_25 h4 dX5_knownSize_9 ?_
    refine V_goto (tgt := 26) dX5_knownSize_12 rfl ?_
    exact V_ireturn rfl ⟨by congr 3; (repeat' split) <;> omega, rfl, rfl, rfl⟩ dX5_knownSize_26
theorem c_count (hW : TW T b ρ) (hC : CT T b f) (hS : RSm T ρ f g φ γ) (hN : NSm T f φ) {n : Int} (rn_ : ri n) : C_X11_count [.ref 0, .int (iz n)] ρ f g (fun r ρ' f' g' => r = some (.int (iz (aCount T n φ))) ∧ ρ' = ρ ∧ f' = f ∧ g' = g) := by
  have hk := hW.2.2.2.2.1
  have hb := hW.2.1
  have hρ := hW.1
  have h6 := hk.la
  have est : stA T (T 104 (12 + 0)) = allS T := by
    unfold stA allS
    congr 1
    have : T 104 (12 + 0) = T 104 12 := rfl
    rw [this, h6.1]
    (repeat' split) <;> omega
  have hst := c_stepsAhead (f := f) (g := g) hρ hb hC hk (n := T 104 (12 + 0)) (by have : T 104 (12 + 0) = T 104 12 := rfl; unfold ri; omega)
  rw [est] at hst
  have ek : ((kB φ : Nat) : Int) = if φ 104 91 < 0 then φ 104 90 else φ 104 91 := by have := hN.1.1; have := hN.1.2.1; unfold kB; split <;> omega
  refine Ct.ofV (by decide) rfl (Nat.le_of_ble_eq_true rfl) ?_
  unfold aCount
  refine V_il1n dX11_count_0 ?_
  rcases (show n = 0 ∨ n = 1 ∨ n = 2 ∨ n = 3 ∨ n = 4 ∨ n = 5 ∨ n = 6 ∨ n = 7 ∨ n = 8 ∨ n = 9 ∨ n = 10 ∨ (n < 0 ∨ 10 < n) by omega) with c9 | c9 | c9 | c9 | c9 | c9 | c9 | c9 | c9 | c9 | c9 | c9
  · refine V_tabIn (tgt := 60) (i := 0) dX11_count_1 (by first | rfl | omega) (by decide) (by first | decide | assumption | (unfold ri at *; omega)) rfl rfl ?_
    refine V_al0n dX11_count_60 ?_
    refine V_getR kk0 (by decide) fl_X11_29 hW.2.2.1 dX11_count_61 ?_
    refine V_iconst dX11_count_64 ?_
    refine V_callV (as := [_]) ml_X11_271 im_X7_size se_X7_size (kb_0 hb) (by decide) (kl_0 hb) dX11_count_65 rfl rfl (by decide) (by decide) (Nat.le_of_ble_eq_true rfl) (by decide) (by decide) rfl (c_size hρ hb hC (i := 0) (by omega)) ?_
    refine pq4 ?_
    exact V_ireturn rfl ⟨by rw [if_pos c9], rfl, rfl, rfl⟩ dX11_count_68
  · refine V_tabIn (tgt := 69) (i := 1) dX11_count_1 (by first | rfl | omega) (by decide) (by first | decide | assumption | (unfold ri at *; omega)) rfl rfl ?_
    refine V_al0n dX11_count_69 ?_
    refine V_getR kk0 (by decide) fl_X11_29 hW.2.2.1 dX11_count_70 ?_
    refine V_iconst dX11_count_73 ?_
    refine V_callV (as := [_]) ml_X11_271 im_X7_size se_X7_size (kb_0 hb) (by decide) (kl_0 hb) dX11_count_74 rfl rfl (by decide) (by decide) (Nat.le_of_ble_eq_true rfl) (by decide) (by decide) rfl (c_size hρ hb hC (i := 1) (by omega)) ?_
    refine pq4 ?_
    exact V_ireturn rfl ⟨by rw [if_neg (by omega), if_pos c9], rfl, rfl, rfl⟩ dX11_count_77
  · refine V_tabIn (tgt := 78) (i := 2) dX11_count_1 (by first | rfl | omega) (by decide) (by first | decide | assumption | (unfold ri at *; omega)) rfl rfl ?_
    refine V_al0n dX11_count_78 ?_
    refine V_getR kk0 (by decide) fl_X11_29 hW.2.2.1 dX11_count_79 ?_
    refine V_iconst dX11_count_82 ?_
    refine V_callV (as := [_]) ml_X11_271 im_X7_size se_X7_size (kb_0 hb) (by decide) (kl_0 hb) dX11_count_83 rfl rfl (by decide) (by decide) (Nat.le_of_ble_eq_true rfl) (by decide) (by decide) rfl (c_size hρ hb hC (i := 2) (by omega)) ?_
    refine pq4 ?_
    exact V_ireturn rfl ⟨by rw [if_neg (by omega), if_neg (by omega), if_pos c9], rfl, rfl, rfl⟩ dX11_count_86
  · refine V_tabIn (tgt := 87) (i := 3) dX11_count_1 (by first | rfl | omega) (by decide) (by first | decide | assumption | (unfold ri at *; omega)) rfl rfl ?_
    refine V_al0n dX11_count_87 ?_
    refine V_getR kk0 (by decide) fl_X11_29 hW.2.2.1 dX11_count_88 ?_
    refine V_iconst dX11_count_91 ?_
    refine V_callV (as := [_]) ml_X11_271 im_X7_size se_X7_size (kb_0 hb) (by decide) (kl_0 hb) dX11_count_92 rfl rfl (by decide) (by decide) (Nat.le_of_ble_eq_true rfl) (by decide) (by decide) rfl (c_size hρ hb hC (i := 3) (by omega)) ?_
    refine pq4 ?_
    exact V_ireturn rfl ⟨by rw [if_neg (by omega), if_neg (by omega), if_neg (by omega), if_pos c9], rfl, rfl, rfl⟩ dX11_count_95
  · refine V_tabIn (tgt := 96) (i := 4) dX11_count_1 (by first | rfl | omega) (by decide) (by first | decide | assumption | (unfold ri at *; omega)) rfl rfl ?_
    refine V_al0n dX11_count_96 ?_
    refine V_getR kk0 (by decide) fl_X11_29 hW.2.2.1 dX11_count_97 ?_
    refine V_getR (kb_0 hb) (kl_0 hb) fl_X11_193 (fb_0_1 hρ hb) dX11_count_100 ?_
    refine V_getI (kb_17 hb) (kl_17 hb) fl_X11_404 hC.2.2.2.1 dX11_count_103 ?_
    exact V_ireturn rfl ⟨by rw [if_neg (by omega), if_neg (by omega), if_neg (by omega), if_neg (by omega), if_pos c9], rfl, rfl, rfl⟩ dX11_count_106
  · refine V_tabIn (tgt := 107) (i := 5) dX11_count_1 (by first | rfl | omega) (by decide) (by first | decide | assumption | (unfold ri at *; omega)) rfl rfl ?_
    refine V_al0n dX11_count_107 ?_
    refine V_getR kk0 (by decide) fl_X11_29 hW.2.2.1 dX11_count_108 ?_
    refine V_al0n dX11_count_111 ?_
    refine V_getR kk0 (by decide) fl_X11_29 hW.2.2.1 dX11_count_112 ?_
    refine V_iconst dX11_count_115 ?_
    refine V_callV (as := [_]) ml_X11_271 im_X7_size se_X7_size (kb_0 hb) (by decide) (kl_0 hb) dX11_count_116 rfl rfl (by decide) (by decide) (Nat.le_of_ble_eq_true rfl) (by decide) (by decide) rfl (c_size hρ hb hC (i := 0) (by omega)) ?_
    refine pq4 ?_
    refine V_callV (as := [_]) ml_X11_216 im_X7_stepsAhead se_X7_stepsAhead (kb_0 hb) (by decide) (kl_0 hb) dX11_count_119 rfl rfl (by decide) (by decide) (Nat.le_of_ble_eq_true rfl) (by decide) (by decide) rfl (hst) ?_
    refine pq4 ?_
    exact V_ireturn rfl ⟨by rw [if_neg (by omega), if_neg (by omega), if_neg (by omega), if_neg (by omega), if_neg (by omega), if_pos c9], rfl, rfl, rfl⟩ dX11_count_122
  · refine V_tabIn (tgt := 123) (i := 6) dX11_count_1 (by first | rfl | omega) (by decide) (by first | decide | assumption | (unfold ri at *; omega)) rfl rfl ?_
    refine V_al0n dX11_count_123 ?_
    refine V_getR kk0 (by decide) fl_X11_100 (fx_0_18 hρ) dX11_count_124 ?_
    refine V_getI kk73 (by decide) fl_X11_336 hN.2.1 dX11_count_127 ?_
    exact V_ireturn rfl ⟨by rw [if_neg (by omega), if_neg (by omega), if_neg (by omega), if_neg (by omega), if_neg (by omega), if_neg (by omega), if_pos c9], rfl, rfl, rfl⟩ dX11_count_130
  · refine V_tabIn (tgt := 131) (i := 7) dX11_count_1 (by first | rfl | omega) (by decide) (by first | decide | assumption | (unfold ri at *; omega)) rfl rfl ?_
    refine V_al0n dX11_count_131 ?_
    refine V_getR kk0 (by decide) fl_X11_100 (fx_0_18 hρ) dX11_count_132 ?_
    refine V_callV (as := []) ml_X11_407 im_X5_knownSize se_X5_knownSize kk73 (by decide) (by decide) dX11_count_135 rfl rfl (by decide) (by decide) (Nat.le_of_ble_eq_true rfl) (by decide) (by decide) rfl (c_knownSize hρ hN) ?_
    refine pq4 ?_
    exact V_ireturn rfl ⟨by rw [if_neg (by omega), if_neg (by omega), if_neg (by omega), if_neg (by omega), if_neg (by omega), if_neg (by omega), if_neg (by omega), if_pos c9, ek], rfl, rfl, rfl⟩ dX11_count_138
  · refine V_tabIn (tgt := 139) (i := 8) dX11_count_1 (by first | rfl | omega) (by decide) (by first | decide | assumption | (unfold ri at *; omega)) rfl rfl ?_
    refine V_al0n dX11_count_139 ?_
    refine V_getI kk0 (by decide) fl_X11_63 hS.2.1.1 dX11_count_140 ?_
    exact V_ireturn rfl ⟨by rw [if_neg (by omega), if_neg (by omega), if_neg (by omega), if_neg (by omega), if_neg (by omega), if_neg (by omega), if_neg (by omega), if_neg (by omega), if_pos c9], rfl, rfl, rfl⟩ dX11_count_143
  · refine V_tabIn (tgt := 144) (i := 9) dX11_count_1 (by first | rfl | omega) (by decide) (by first | decide | assumption | (unfold ri at *; omega)) rfl rfl ?_
    refine V_al0n dX11_count_144 ?_
    refine V_getI kk0 (by decide) fl_X11_36 hS.2.2.2.2.2.2.1.1 dX11_count_145 ?_
    exact V_ireturn rfl ⟨by rw [if_neg (by omega), if_neg (by omega), if_neg (by omega), if_neg (by omega), if_neg (by omega), if_neg (by omega), if_neg (by omega), if_neg (by omega), if_neg (by omega), if_pos c9], rfl, rfl, rfl⟩ dX11_count_148
  · refine V_tabIn (tgt := 149) (i := 10) dX11_count_1 (by first | rfl | omega) (by decide) (by first | decide | assumption | (unfold ri at *; omega)) rfl rfl ?_
    refine V_al0n dX11_count_149 ?_
    refine V_getR kk0 (by decide) fl_X11_29 hW.2.2.1 dX11_count_150 ?_
    refine V_iconst dX11_count_153 ?_
    refine V_callV (as := [_]) ml_X11_271 im_X7_size se_X7_size (kb_0 hb) (by decide) (kl_0 hb) dX11_count_154 rfl rfl (by decide) (by decide) (Nat.le_of_ble_eq_true rfl) (by decide) (by decide) rfl (c_size hρ hb hC (i := 4) (by omega)) ?_
    refine pq4 ?_
    exact V_ireturn rfl ⟨by rw [if_neg (by omega), if_neg (by omega), if_neg (by omega), if_neg (by omega), if_neg (by omega), if_neg (by omega), if_neg (by omega), if_neg (by omega), if_neg (by omega), if_neg (by omega), if_pos c9], rfl, rfl, rfl⟩ dX11_count_157
  · refine V_tabOut (tgt := 158) dX11_count_1 (by omega) (by first | assumption | (unfold ri at *; omega)) rfl ?_
    refine V_iconst dX11_count_158 ?_
    exact V_ireturn rfl ⟨by rw [if_neg (by omega), if_neg (by omega), if_neg (by omega), if_neg (by omega), if_neg (by omega), if_neg (by omega), if_neg (by omega), if_neg (by omega), if_neg (by omega), if_neg (by omega), if_neg (by omega)], rfl, rfl, rfl⟩ dX11_count_159
end COUNT

