/-! notes, sack, rain, counts -/
/-- the class's splits against the reference's notes -/
def NSm (T : TT) (f φ : IT) : Prop := NTK T φ ∧ f 73 4 = φ 104 90 ∧ f 73 5 = φ 104 91 ∧ ∀ i : Nat, (i : Int) < φ 104 90 → f 74 i = φ 142 (4 * i) ∧ f 75 i = φ 142 (4 * i + 1) * 6 + φ 142 (4 * i + 2) ∧ f 76 i = φ 142 (4 * i + 3)
theorem NSm.cg {T : TT} {f f' φ : IT} (h : NSm T f φ) (e4 : f' 73 4 = f 73 4) (e5 : f' 73 5 = f 73 5) (e : ∀ a k, 74 ≤ a ∧ a ≤ 76 → f' a k = f a k) : NSm T f' φ := by
  obtain ⟨h1, h2, h3, h4⟩ := h
  refine ⟨h1, e4.trans h2, e5.trans h3, fun i hi => ?_⟩
  rw [e 74 i (by omega), e 75 i (by omega), e 76 i (by omega)]
  exact h4 i hi
theorem NSm.cp {T : TT} {f φ φ' : IT} (h : NSm T f φ) (e90 : φ' 104 90 = φ 104 90) (e91 : φ' 104 91 = φ 104 91) (e : φ' 142 = φ 142) : NSm T f φ' := by
  unfold NSm NTK at *
  rw [e90, e91, e]
  exact h
section NOTES
variable {T : TT} {b : Nat} {ρ : RT} {f : IT} {g : JT} {φ : IT} {γ : JT}
def addF (n : Nat) (m c x : Int) (f : IT) : IT := u2 (u2 (u2 (u2 (u2 f 74 n m) 75 n c) 76 n x) 73 4 ((n : Int) + 1)) 73 9 (-1)
theorem c_add (hρ : Fx ρ) {n : Nat} (hn : n < 24) (h4 : f 73 4 = (n : Int)) {m p k x : Int} : C_X5_add [.ref 73, .int (iz m), .int (iz p), .int (iz k), .int (iz x)] ρ f g (fun r ρ' f' g' => r = some (.int (iz (n : Int))) ∧ ρ' = ρ ∧ f' = addF n m (p * 6 + k) x f ∧ g' = g) := by
  refine Ct.ofV (by decide) rfl (Nat.le_of_ble_eq_true rfl) ?_
  refine V_al0n dX5_add_0 ?_
  refine V_getI kk73 (by decide) fl_X5_25 h4 dX5_add_1 ?_
  refine V_bipush dX5_add_4 rfl ?_
  refine V_icmp_lt (tgt := 11) dX5_add_6 rfl (by first | assumption | (unfold ri at *; omega)) (by first | assumption | (unfold ri at *; omega)) (fun b6 => ?_) (fun b6 => ?_)
  · refine V_al0n dX5_add_11 ?_
    refine V_getR kk73 (by decide) fl_X5_11 (fx_73_0 hρ) dX5_add_12 ?_
    refine V_al0n dX5_add_15 ?_
    refine V_getI kk73 (by decide) fl_X5_25 h4 dX5_add_16 ?_
    refine V_il1n dX5_add_19 ?_
    refine V_iast (k := n) kk74 (by decide) (by first | rfl | omega) (by omega) (by first | decide | assumption | omega) dX5_add_20 ?_
    refine V_al0n dX5_add_21 ?_
    refine V_getR kk73 (by decide) fl_X5_15 (fx_73_1 hρ) dX5_add_22 ?_
    refine V_al0n dX5_add_25 ?_
    refine V_getI kk73 (by decide) fl_X5_25 (u2_n (by omega) h4) dX5_add_26 ?_
    refine V_il2n dX5_add_29 ?_
    refine V_bipush dX5_add_30 rfl ?_
    refine V_imul dX5_add_32 ?_
    refine V_il3n dX5_add_33 ?_
    refine V_iadd dX5_add_34 ?_
    refine V_iast (k := n) kk75 (by decide) (by first | rfl | omega) (by omega) (by first | decide | assumption | omega) dX5_add_35 ?_
    refine V_al0n dX5_add_36 ?_
    refine V_getR kk73 (by decide) fl_X5_18 (fx_73_2 hρ) dX5_add_37 ?_
    refine V_al0n dX5_add_40 ?_
    refine V_getI kk73 (by decide) fl_X5_25 (u2_n (by omega) (u2_n (by omega) h4)) dX5_add_41 ?_
    refine V_il4 dX5_add_44 ?_
    refine V_iast (k := n) kk76 (by decide) (by first | rfl | omega) (by omega) (by first | decide | assumption | omega) dX5_add_46 ?_
    refine V_al0n dX5_add_47 ?_
    refine V_dup dX5_add_48 rfl ?_
    refine V_getI kk73 (by decide) fl_X5_25 (u2_n (by omega) (u2_n (by omega) (u2_n (by omega) h4))) dX5_add_49 ?_
    refine V_iconst dX5_add_52 ?_
    refine V_iadd dX5_add_53 ?_
    refine V_putI kk73 (by decide) fl_X5_25 rfl dX5_add_54 ?_
    refine V_al0n dX5_add_57 ?_
    refine V_iconst dX5_add_58 ?_
    refine V_putI kk73 (by decide) fl_X5_42 rfl dX5_add_59 ?_
    refine V_al0n dX5_add_62 ?_
    refine V_getI kk73 (by decide) fl_X5_25 (u2_n (by decide) u2_s) dX5_add_63 ?_
    refine V_iconst dX5_add_66 ?_
    refine V_isub dX5_add_67 ?_
    exact V_ireturn rfl ⟨by congr 3; omega, rfl, rfl, rfl⟩ dX5_add_68
  · exfalso; omega
theorem c_addN (hρ : Fx ρ) (h4 : f 73 4 = 24) {m p k x : Int} : C_X5_add [.ref 73, .int (iz m), .int (iz p), .int (iz k), .int (iz x)] ρ f g (fun r ρ' f' g' => r = some (.int (iz (-1))) ∧ ρ' = ρ ∧ f' = f ∧ g' = g) := by
  refine Ct.ofV (by decide) rfl (Nat.le_of_ble_eq_true rfl) ?_
  refine V_al0n dX5_add_0 ?_
  refine V_getI kk73 (by decide) fl_X5_25 h4 dX5_add_1 ?_
  refine V_bipush dX5_add_4 rfl ?_
  refine V_icmp_lt (tgt := 11) dX5_add_6 rfl (by first | assumption | (unfold ri at *; omega)) (by first | assumption | (unfold ri at *; omega)) (fun b6 => ?_) (fun b6 => ?_)
  · exfalso; omega
  · refine V_iconst dX5_add_9 ?_
    exact V_ireturn rfl ⟨rfl, rfl, rfl, rfl⟩ dX5_add_10
/-- beside the splits nothing changes -/
def NK (f f' : IT) : Prop := ∀ a k, ¬ (a = 73 ∧ (k = 4 ∨ k = 5 ∨ k = 9)) → ¬ (74 ≤ a ∧ a ≤ 76) → f' a k = f a k
theorem NSm.add (hS : NSm T f φ) {n : Nat} (hn : φ 104 90 = (n : Int)) (hn24 : n < 24) {m p k x : Int} (hok : (m = -1 ∧ 0 ≤ x ∧ x < (n : Int)) ∨ ((0 ≤ m ∧ m < (nMe T : Int)) ∧ (0 ≤ p ∧ p < (nPl T : Int)) ∧ (0 ≤ k ∧ k < (nLa T : Int)) ∧ (0 ≤ x ∧ x ≤ 99999))) : NSm T (addF n m (p * 6 + k) x f) (ntdF m p k x φ) ∧ NK f (addF n m (p * 6 + k) x f) := by
  obtain ⟨⟨k1, k2, k3⟩, h4, h5, h6⟩ := hS
  have P : ∀ a j, ntdF m p k x φ a j = if a = 104 ∧ j = 90 then (n : Int) + 1 else if a = 142 ∧ j = 4 * n + 3 then x else if a = 142 ∧ j = 4 * n + 2 then k else if a = 142 ∧ j = 4 * n + 1 then p else if a = 142 ∧ j = 4 * n then m else φ a j := fun a j => by
    unfold ntdF
    rw [hn, Int.toNat_natCast]
    rfl
  have A : ∀ a j, addF n m (p * 6 + k) x f a j = if a = 73 ∧ j = 9 then -1 else if a = 73 ∧ j = 4 then (n : Int) + 1 else if a = 76 ∧ j = n then x else if a = 75 ∧ j = n then p * 6 + k else if a = 74 ∧ j = n then m else f a j := fun a j => rfl
  generalize ntdF m p k x φ = Φ at P
  generalize addF n m (p * 6 + k) x f = F at A
  have p90 : Φ 104 90 = (n : Int) + 1 := by rw [P]; simp
  have p91 : Φ 104 91 = φ 104 91 := by rw [P]; simp
  refine ⟨⟨⟨by omega, by omega, fun i hi => ?_⟩, ?_, ?_, fun i hi => ?_⟩, fun a j q1 q2 => ?_⟩
  · by_cases e : i = n
    · subst e
      rw [P 142 (4 * i), P 142 (4 * i + 1), P 142 (4 * i + 2), P 142 (4 * i + 3)]
      simp
      exact hok
    · have := k3 i (by omega)
      have e0 : Φ 142 (4 * i) = φ 142 (4 * i) := by rw [P, if_neg (by omega), if_neg (by omega), if_neg (by omega), if_neg (by omega), if_neg (by omega)]
      have e1 : Φ 142 (4 * i + 1) = φ 142 (4 * i + 1) := by rw [P, if_neg (by omega), if_neg (by omega), if_neg (by omega), if_neg (by omega), if_neg (by omega)]
      have e2 : Φ 142 (4 * i + 2) = φ 142 (4 * i + 2) := by rw [P, if_neg (by omega), if_neg (by omega), if_neg (by omega), if_neg (by omega), if_neg (by omega)]
      have e3 : Φ 142 (4 * i + 3) = φ 142 (4 * i + 3) := by rw [P, if_neg (by omega), if_neg (by omega), if_neg (by omega), if_neg (by omega), if_neg (by omega)]
      rw [e0, e1, e2, e3]
      exact this
  · rw [p90, A]; simp
  · rw [p91, A]; simp; exact h5
  · by_cases e : i = n
    · subst e
      rw [P 142 (4 * i), P 142 (4 * i + 1), P 142 (4 * i + 2), P 142 (4 * i + 3), A, A, A]
      simp
    · have e0 : Φ 142 (4 * i) = φ 142 (4 * i) := by rw [P, if_neg (by omega), if_neg (by omega), if_neg (by omega), if_neg (by omega), if_neg (by omega)]
      have e1 : Φ 142 (4 * i + 1) = φ 142 (4 * i + 1) := by rw [P, if_neg (by omega), if_neg (by omega), if_neg (by omega), if_neg (by omega), if_neg (by omega)]
      have e2 : Φ 142 (4 * i + 2) = φ 142 (4 * i + 2) := by rw [P, if_neg (by omega), if_neg (by omega), if_neg (by omega), if_neg (by omega), if_neg (by omega)]
      have e3 : Φ 142 (4 * i + 3) = φ 142 (4 * i + 3) := by rw [P, if_neg (by omega), if_neg (by omega), if_neg (by omega), if_neg (by omega), if_neg (by omega)]
      rw [e0, e1, e2, e3, A 74, A 75, A 76, if_neg (by omega), if_neg (by omega), if_neg (by omega), if_neg (by omega), if_neg (by omega), if_neg (by omega), if_neg (by omega), if_neg (by omega), if_neg (by omega), if_neg (by omega), if_neg (by omega), if_neg (by omega), if_neg (by omega), if_neg (by omega), if_neg (by omega)]
      exact h6 i (by omega)
  · rw [A, if_neg (by omega), if_neg (by omega), if_neg (by omega), if_neg (by omega), if_neg (by omega)]
/-- the fits kept are forgotten, or all is as it was -/
def NFg (f f' : IT) : Prop := f' = f ∨ f' 73 9 = -1
theorem c_note (hW : TW T b ρ) (hC : CT T b f) (hS : NSm T f φ) {m p k x : Int} (rm : ri m) (rp : ri p) (rk : ri k) (rx : ri x) : C_X11_note [.ref 0, .int (iz m), .int (iz p), .int (iz k), .int (iz x)] ρ f g (fun r ρ' f' g' => r = some (.int (iz (notA T m p k x φ))) ∧ ρ' = ρ ∧ NSm T f' (notF T m p k x φ) ∧ NK f f' ∧ NFg f f' ∧ g' = g) := by
  have hk := hW.2.2.2.2.1
  have hb := hW.2.1
  have hρ := hW.1
  have h90 := hS.1.1
  have h4 := hS.2.1
  refine Ct.ofV (by decide) rfl (Nat.le_of_ble_eq_true rfl) ?_
  have nope : notO T m p k x φ = false → notA T m p k x φ = -1 ∧ notF T m p k x φ = φ := fun q => by unfold notA notF; rw [q]; exact ⟨rfl, rfl⟩
  by_cases c : (okM T m && okP T p) = true ∧ okL T k = true ∧ 0 ≤ x ∧ x ≤ 99999
  · obtain ⟨c1, c2, c3⟩ := c
    have c1' := c1
    rw [Bool.and_eq_true] at c1'
    by_cases cn : φ 104 90 = 24
    · obtain ⟨ea, ef⟩ := nope (by unfold notO; rw [cn]; simp)
      rw [ea, ef]
      refine V_al0n dX11_note_0 ?_
      refine V_il1n dX11_note_1 ?_
      refine V_il2n dX11_note_2 ?_
      refine V_callV (as := [_, _]) ml_X11_203 im_X11_canRun se_X11_canRun kk0 (by decide) (by decide) dX11_note_3 rfl rfl (by decide) (by decide) (Nat.le_of_ble_eq_true rfl) (by decide) (by decide) rfl (c_canRun hW hC rm rp) ?_
      refine pq4 ?_
      refine V_bt (tgt := 34) dX11_note_6 rfl (fun b6 => ?_) (fun b6 => ?_)
      · rw [c1] at b6; cases b6
      · refine V_al0n dX11_note_9 ?_
        refine V_getR kk0 (by decide) fl_X11_29 hW.2.2.1 dX11_note_10 ?_
        refine V_iconst dX11_note_13 ?_
        refine V_il3n dX11_note_14 ?_
        refine V_callV (as := [_, _]) ml_X11_160 im_X7_has se_X7_has (kb_0 hb) (by decide) (kl_0 hb) dX11_note_15 rfl rfl (by decide) (by decide) (Nat.le_of_ble_eq_true rfl) (by decide) (by decide) rfl (c_hasL hW hC rk) ?_
        refine pq4 ?_
        refine V_bt (tgt := 34) dX11_note_18 rfl (fun b18 => ?_) (fun b18 => ?_)
        · rw [c2] at b18; cases b18
        · refine V_il4 dX11_note_21 ?_
          refine V_if_lt (tgt := 34) dX11_note_23 rfl (by first | assumption | (unfold ri at *; omega)) (fun b23 => ?_) (fun b23 => ?_)
          · exfalso; omega
          · refine V_il4 dX11_note_26 ?_
            refine V_ldc_w (a := 99999) kc_X11_332 rfl dX11_note_28 ?_
            refine V_icmp_le (tgt := 36) dX11_note_31 rfl (by first | assumption | (unfold ri at *; omega)) (by first | assumption | (unfold ri at *; omega)) (fun b31 => ?_) (fun b31 => ?_)
            · refine V_al0n dX11_note_36 ?_
              refine V_getR kk0 (by decide) fl_X11_100 (fx_0_18 hρ) dX11_note_37 ?_
              refine V_il1n dX11_note_40 ?_
              refine V_il2n dX11_note_41 ?_
              refine V_il3n dX11_note_42 ?_
              refine V_il4 dX11_note_43 ?_
              refine V_callV (as := [_, _, _, _]) ml_X11_333 im_X5_add se_X5_add kk73 (by decide) (by decide) dX11_note_45 rfl rfl (by decide) (by decide) (Nat.le_of_ble_eq_true rfl) (by decide) (by decide) rfl (c_addN hρ (h4.trans cn)) ?_
              refine pq4 ?_
              exact V_ireturn rfl ⟨rfl, rfl, hS, fun _ _ _ _ => rfl, Or.inl rfl, rfl⟩ dX11_note_48
            · exfalso; omega
    · obtain ⟨n, hn⟩ : ∃ n : Nat, φ 104 90 = (n : Int) := ⟨(φ 104 90).toNat, by omega⟩
      have eo : notO T m p k x φ = true := by unfold notO; rw [c1'.1, c1'.2, c2]; unfold zin; simp; omega
      have ea : notA T m p k x φ = (n : Int) := by unfold notA; rw [if_pos eo, hn]
      have ef : notF T m p k x φ = ntdF m p k x φ := by unfold notF; rw [if_pos eo]
      rw [ea, ef]
      have hadd := hS.add hn (by omega) (m := m) (p := p) (k := k) (x := x) (Or.inr ⟨by have := c1'.1; unfold okM at this; simpa using this, by have := c1'.2; unfold okP at this; simpa using this, by have := c2; unfold okL at this; simpa using this, c3⟩)
      refine V_al0n dX11_note_0 ?_
      refine V_il1n dX11_note_1 ?_
      refine V_il2n dX11_note_2 ?_
      refine V_callV (as := [_, _]) ml_X11_203 im_X11_canRun se_X11_canRun kk0 (by decide) (by decide) dX11_note_3 rfl rfl (by decide) (by decide) (Nat.le_of_ble_eq_true rfl) (by decide) (by decide) rfl (c_canRun hW hC rm rp) ?_
      refine pq4 ?_
      refine V_bt (tgt := 34) dX11_note_6 rfl (fun b6 => ?_) (fun b6 => ?_)
      · rw [c1] at b6; cases b6
      · refine V_al0n dX11_note_9 ?_
        refine V_getR kk0 (by decide) fl_X11_29 hW.2.2.1 dX11_note_10 ?_
        refine V_iconst dX11_note_13 ?_
        refine V_il3n dX11_note_14 ?_
        refine V_callV (as := [_, _]) ml_X11_160 im_X7_has se_X7_has (kb_0 hb) (by decide) (kl_0 hb) dX11_note_15 rfl rfl (by decide) (by decide) (Nat.le_of_ble_eq_true rfl) (by decide) (by decide) rfl (c_hasL hW hC rk) ?_
        refine pq4 ?_
        refine V_bt (tgt := 34) dX11_note_18 rfl (fun b18 => ?_) (fun b18 => ?_)
        · rw [c2] at b18; cases b18
        · refine V_il4 dX11_note_21 ?_
          refine V_if_lt (tgt := 34) dX11_note_23 rfl (by first | assumption | (unfold ri at *; omega)) (fun b23 => ?_) (fun b23 => ?_)
          · exfalso; omega
          · refine V_il4 dX11_note_26 ?_
            refine V_ldc_w (a := 99999) kc_X11_332 rfl dX11_note_28 ?_
            refine V_icmp_le (tgt := 36) dX11_note_31 rfl (by first | assumption | (unfold ri at *; omega)) (by first | assumption | (unfold ri at *; omega)) (fun b31 => ?_) (fun b31 => ?_)
            · refine V_al0n dX11_note_36 ?_
              refine V_getR kk0 (by decide) fl_X11_100 (fx_0_18 hρ) dX11_note_37 ?_
              refine V_il1n dX11_note_40 ?_
              refine V_il2n dX11_note_41 ?_
              refine V_il3n dX11_note_42 ?_
              refine V_il4 dX11_note_43 ?_
              refine V_callV (as := [_, _, _, _]) ml_X11_333 im_X5_add se_X5_add kk73 (by decide) (by decide) dX11_note_45 rfl rfl (by decide) (by decide) (Nat.le_of_ble_eq_true rfl) (by decide) (by decide) rfl (c_add hρ (n := n) (by omega) (h4.trans hn)) ?_
              refine pq4 ?_
              exact V_ireturn rfl ⟨rfl, rfl, hadd.1, hadd.2, Or.inr u2_s, rfl⟩ dX11_note_48
            · exfalso; omega
  · obtain ⟨ea, ef⟩ := nope (by
      cases z : notO T m p k x φ with
      | false => rfl
      | true =>
        exfalso
        unfold notO at z
        simp only [Bool.and_eq_true] at z
        obtain ⟨⟨⟨⟨z1, z2⟩, z3⟩, z4⟩, z5⟩ := z
        exact c ⟨by rw [z2, z3]; rfl, z4, by unfold zin at z5; simpa using z5⟩)
    rw [ea, ef]
    refine V_al0n dX11_note_0 ?_
    refine V_il1n dX11_note_1 ?_
    refine V_il2n dX11_note_2 ?_
    refine V_callV (as := [_, _]) ml_X11_203 im_X11_canRun se_X11_canRun kk0 (by decide) (by decide) dX11_note_3 rfl rfl (by decide) (by decide) (Nat.le_of_ble_eq_true rfl) (by decide) (by decide) rfl (c_canRun hW hC rm rp) ?_
    refine pq4 ?_
    refine V_bt (tgt := 34) dX11_note_6 rfl (fun b6 => ?_) (fun b6 => ?_)
    · refine V_iconst dX11_note_34 ?_
      exact V_ireturn rfl ⟨rfl, rfl, hS, fun _ _ _ _ => rfl, Or.inl rfl, rfl⟩ dX11_note_35
    · refine V_al0n dX11_note_9 ?_
      refine V_getR kk0 (by decide) fl_X11_29 hW.2.2.1 dX11_note_10 ?_
      refine V_iconst dX11_note_13 ?_
      refine V_il3n dX11_note_14 ?_
      refine V_callV (as := [_, _]) ml_X11_160 im_X7_has se_X7_has (kb_0 hb) (by decide) (kl_0 hb) dX11_note_15 rfl rfl (by decide) (by decide) (Nat.le_of_ble_eq_true rfl) (by decide) (by decide) rfl (c_hasL hW hC rk) ?_
      refine pq4 ?_
      refine V_bt (tgt := 34) dX11_note_18 rfl (fun b18 => ?_) (fun b18 => ?_)
      · refine V_iconst dX11_note_34 ?_
        exact V_ireturn rfl ⟨rfl, rfl, hS, fun _ _ _ _ => rfl, Or.inl rfl, rfl⟩ dX11_note_35
      · refine V_il4 dX11_note_21 ?_
        refine V_if_lt (tgt := 34) dX11_note_23 rfl (by first | assumption | (unfold ri at *; omega)) (fun b23 => ?_) (fun b23 => ?_)
        · refine V_iconst dX11_note_34 ?_
          exact V_ireturn rfl ⟨rfl, rfl, hS, fun _ _ _ _ => rfl, Or.inl rfl, rfl⟩ dX11_note_35
        · refine V_il4 dX11_note_26 ?_
          refine V_ldc_w (a := 99999) kc_X11_332 rfl dX11_note_28 ?_
          refine V_icmp_le (tgt := 36) dX11_note_31 rfl (by first | assumption | (unfold ri at *; omega)) (by first | assumption | (unfold ri at *; omega)) (fun b31 => ?_) (fun b31 => ?_)
          · exact absurd ⟨b6, b18, by omega, by omega⟩ c
          · refine V_iconst dX11_note_34 ?_
            exact V_ireturn rfl ⟨rfl, rfl, hS, fun _ _ _ _ => rfl, Or.inl rfl, rfl⟩ dX11_note_35
theorem c_strike (hρ : Fx ρ) (hS : NSm T f φ) {n : Int} (rn_ : ri n) : C_X11_strike [.ref 0, .int (iz n)] ρ f g (fun r ρ' f' g' => r = some (.int (iz (strA n φ))) ∧ ρ' = ρ ∧ NSm T f' (strF n φ) ∧ NK f f' ∧ NFg f f' ∧ g' = g) := by
  have h90 := hS.1.1
  have h4 := hS.2.1
  refine Ct.ofV (by decide) rfl (Nat.le_of_ble_eq_true rfl) ?_
  have nope : strO n φ = false → strA n φ = -1 ∧ strF n φ = φ := fun q => by unfold strA strF; rw [q]; exact ⟨rfl, rfl⟩
  by_cases c : 0 ≤ n ∧ n < φ 104 90
  · by_cases cn : φ 104 90 = 24
    · obtain ⟨ea, ef⟩ := nope (by unfold strO; rw [cn]; simp)
      rw [ea, ef]
      refine V_il1n dX11_strike_0 ?_
      refine V_if_lt (tgt := 15) dX11_strike_1 rfl (by first | assumption | (unfold ri at *; omega)) (fun b1 => ?_) (fun b1 => ?_)
      · exfalso; omega
      · refine V_il1n dX11_strike_4 ?_
        refine V_al0n dX11_strike_5 ?_
        refine V_getR kk0 (by decide) fl_X11_100 (fx_0_18 hρ) dX11_strike_6 ?_
        refine V_getI kk73 (by decide) fl_X11_336 h4 dX11_strike_9 ?_
        refine V_icmp_lt (tgt := 19) dX11_strike_12 rfl (by first | assumption | (unfold ri; omega)) (by first | assumption | (unfold ri; omega)) (fun b12 => ?_) (fun b12 => ?_)
        · refine V_al0n dX11_strike_19 ?_
          refine V_getR kk0 (by decide) fl_X11_100 (fx_0_18 hρ) dX11_strike_20 ?_
          refine V_iconst dX11_strike_23 ?_
          refine V_iconst dX11_strike_24 ?_
          refine V_iconst dX11_strike_25 ?_
          refine V_il1n dX11_strike_26 ?_
          refine V_callV (as := [_, _, _, _]) ml_X11_333 im_X5_add se_X5_add kk73 (by decide) (by decide) dX11_strike_27 rfl rfl (by decide) (by decide) (Nat.le_of_ble_eq_true rfl) (by decide) (by decide) rfl (c_addN hρ (h4.trans cn)) ?_
          refine pq4 ?_
          exact V_ireturn rfl ⟨rfl, rfl, hS, fun _ _ _ _ => rfl, Or.inl rfl, rfl⟩ dX11_strike_30
        · exfalso; omega
    · obtain ⟨z, hz⟩ : ∃ z : Nat, φ 104 90 = (z : Int) := ⟨(φ 104 90).toNat, by omega⟩
      have eo : strO n φ = true := by unfold strO; simp; omega
      have ea : strA n φ = (z : Int) := by unfold strA; rw [if_pos eo, hz]
      have ef : strF n φ = ntdF (-1) 0 0 n φ := by unfold strF; rw [if_pos eo]
      rw [ea, ef]
      have hadd := hS.add hz (by omega) (m := -1) (p := 0) (k := 0) (x := n) (Or.inl ⟨rfl, by omega, by omega⟩)
      refine V_il1n dX11_strike_0 ?_
      refine V_if_lt (tgt := 15) dX11_strike_1 rfl (by first | assumption | (unfold ri at *; omega)) (fun b1 => ?_) (fun b1 => ?_)
      · exfalso; omega
      · refine V_il1n dX11_strike_4 ?_
        refine V_al0n dX11_strike_5 ?_
        refine V_getR kk0 (by decide) fl_X11_100 (fx_0_18 hρ) dX11_strike_6 ?_
        refine V_getI kk73 (by decide) fl_X11_336 h4 dX11_strike_9 ?_
        refine V_icmp_lt (tgt := 19) dX11_strike_12 rfl (by first | assumption | (unfold ri; omega)) (by first | assumption | (unfold ri; omega)) (fun b12 => ?_) (fun b12 => ?_)
        · refine V_al0n dX11_strike_19 ?_
          refine V_getR kk0 (by decide) fl_X11_100 (fx_0_18 hρ) dX11_strike_20 ?_
          refine V_iconst dX11_strike_23 ?_
          refine V_iconst dX11_strike_24 ?_
          refine V_iconst dX11_strike_25 ?_
          refine V_il1n dX11_strike_26 ?_
          refine V_callV (as := [_, _, _, _]) ml_X11_333 im_X5_add se_X5_add kk73 (by decide) (by decide) dX11_strike_27 rfl rfl (by decide) (by decide) (Nat.le_of_ble_eq_true rfl) (by decide) (by decide) rfl (c_add hρ (n := z) (by omega) (h4.trans hz)) ?_
          refine pq4 ?_
          exact V_ireturn rfl ⟨rfl, rfl, hadd.1, hadd.2, Or.inr u2_s, rfl⟩ dX11_strike_30
        · exfalso; omega
  · obtain ⟨ea, ef⟩ := nope (by unfold strO; simp; omega)
    rw [ea, ef]
    refine V_il1n dX11_strike_0 ?_
    refine V_if_lt (tgt := 15) dX11_strike_1 rfl (by first | assumption | (unfold ri at *; omega)) (fun b1 => ?_) (fun b1 => ?_)
    · refine V_iconst dX11_strike_15 ?_
      refine V_goto (tgt := 30) dX11_strike_16 rfl ?_
      exact V_ireturn rfl ⟨rfl, rfl, hS, fun _ _ _ _ => rfl, Or.inl rfl, rfl⟩ dX11_strike_30
    · refine V_il1n dX11_strike_4 ?_
      refine V_al0n dX11_strike_5 ?_
      refine V_getR kk0 (by decide) fl_X11_100 (fx_0_18 hρ) dX11_strike_6 ?_
      refine V_getI kk73 (by decide) fl_X11_336 h4 dX11_strike_9 ?_
      refine V_icmp_lt (tgt := 19) dX11_strike_12 rfl (by first | assumption | (unfold ri; omega)) (by first | assumption | (unfold ri; omega)) (fun b12 => ?_) (fun b12 => ?_)
      · exfalso; omega
      · refine V_iconst dX11_strike_15 ?_
        refine V_goto (tgt := 30) dX11_strike_16 rfl ?_
        exact V_ireturn rfl ⟨rfl, rfl, hS, fun _ _ _ _ => rfl, Or.inl rfl, rfl⟩ dX11_strike_30
theorem c_know (hρ : Fx ρ) {n : Int} : C_X5_know [.ref 73, .int (iz n)] ρ f g (fun r ρ' f' g' => r = none ∧ ρ' = ρ ∧ f' = u2 (u2 f 73 5 n) 73 9 (-1) ∧ g' = g) := by
  refine Ct.ofV (by decide) rfl (Nat.le_of_ble_eq_true rfl) ?_
  refine V_al0n dX5_know_0 ?_
  refine V_il1n dX5_know_1 ?_
  refine V_putI kk73 (by decide) fl_X5_29 rfl dX5_know_2 ?_
  refine V_al0n dX5_know_5 ?_
  refine V_iconst dX5_know_6 ?_
  refine V_putI kk73 (by decide) fl_X5_42 rfl dX5_know_7 ?_
  exact V_return rfl ⟨rfl, rfl, rfl, rfl⟩ dX5_know_10
theorem c_known (hρ : Fx ρ) (hS : NSm T f φ) {n : Int} (rn_ : ri n) : C_X11_known [.ref 0, .int (iz n)] ρ f g (fun r ρ' f' g' => r = some (.int (iz (bz (zin n (-1) (φ 104 90))))) ∧ ρ' = ρ ∧ NSm T f' (knoF n φ) ∧ NK f f' ∧ NFg f f' ∧ g' = g) := by
  have h90 := hS.1.1
  have h4 := hS.2.1
  refine Ct.ofV (by decide) rfl (Nat.le_of_ble_eq_true rfl) ?_
  by_cases c : -1 ≤ n ∧ n ≤ φ 104 90
  · have ez : zin n (-1) (φ 104 90) = true := by unfold zin; simpa using c
    have ef : knoF n φ = u2 φ 104 91 n := by unfold knoF; rw [if_pos ez]
    rw [ez, ef]
    have fin : NSm T (u2 (u2 f 73 5 n) 73 9 (-1)) (u2 φ 104 91 n) := by
      obtain ⟨⟨k1, k2, k3⟩, h4, h5, h6⟩ := hS
      refine ⟨⟨by rw [u2_o (by omega)]; exact k1, by rw [u2_s, u2_o (by omega)]; exact c, fun i hi => ?_⟩, ?_, ?_, fun i hi => ?_⟩
      · rw [u2_o (by omega)] at hi
        rw [u2_o (by omega), u2_o (by omega), u2_o (by omega), u2_o (by omega)]; exact k3 i hi
      · rw [u2_o (by omega), u2_o (by omega), u2_o (by omega)]; exact h4
      · rw [u2_o (by omega), u2_s, u2_s]
      · rw [u2_o (by omega)] at hi
        (repeat rw [u2_o (by omega)])
        exact h6 i hi
    refine V_il1n dX11_known_0 ?_
    refine V_iconst dX11_known_1 ?_
    refine V_icmp_lt (tgt := 16) dX11_known_2 rfl (by first | assumption | (unfold ri at *; omega)) (by first | assumption | (unfold ri at *; omega)) (fun b2 => ?_) (fun b2 => ?_)
    · exfalso; omega
    · refine V_il1n dX11_known_5 ?_
      refine V_al0n dX11_known_6 ?_
      refine V_getR kk0 (by decide) fl_X11_100 (fx_0_18 hρ) dX11_known_7 ?_
      refine V_getI kk73 (by decide) fl_X11_336 h4 dX11_known_10 ?_
      refine V_icmp_le (tgt := 18) dX11_known_13 rfl (by first | assumption | (unfold ri; omega)) (by first | assumption | (unfold ri; omega)) (fun b13 => ?_) (fun b13 => ?_)
      · refine V_al0n dX11_known_18 ?_
        refine V_getR kk0 (by decide) fl_X11_100 (fx_0_18 hρ) dX11_known_19 ?_
        refine V_il1n dX11_known_22 ?_
        refine V_callV (as := [_]) ml_X11_338 im_X5_know se_X5_know kk73 (by decide) (by decide) dX11_known_23 rfl rfl (by decide) (by decide) (Nat.le_of_ble_eq_true rfl) (by decide) (by decide) rfl (c_know hρ) ?_
        refine pq4 ?_
        refine V_iconst dX11_known_26 ?_
        exact V_zreturn rfl (by first | exact Or.inl rfl | exact Or.inr rfl | (unfold bz; split <;> simp)) ⟨rfl, rfl, fin, fun a k q1 q2 => by rw [u2_o (by omega), u2_o (by omega)], Or.inr u2_s, rfl⟩ dX11_known_27
      · exfalso; omega
  · have ez : zin n (-1) (φ 104 90) = false := by unfold zin; simp; omega
    have ef : knoF n φ = φ := by unfold knoF; rw [ez]; rfl
    rw [ez, ef]
    refine V_il1n dX11_known_0 ?_
    refine V_iconst dX11_known_1 ?_
    refine V_icmp_lt (tgt := 16) dX11_known_2 rfl (by first | assumption | (unfold ri at *; omega)) (by first | assumption | (unfold ri at *; omega)) (fun b2 => ?_) (fun b2 => ?_)
    · refine V_iconst dX11_known_16 ?_
      exact V_zreturn rfl (by first | exact Or.inl rfl | exact Or.inr rfl | (unfold bz; split <;> simp)) ⟨rfl, rfl, hS, fun _ _ _ _ => rfl, Or.inl rfl, rfl⟩ dX11_known_17
    · refine V_il1n dX11_known_5 ?_
      refine V_al0n dX11_known_6 ?_
      refine V_getR kk0 (by decide) fl_X11_100 (fx_0_18 hρ) dX11_known_7 ?_
      refine V_getI kk73 (by decide) fl_X11_336 h4 dX11_known_10 ?_
      refine V_icmp_le (tgt := 18) dX11_known_13 rfl (by first | assumption | (unfold ri; omega)) (by first | assumption | (unfold ri; omega)) (fun b13 => ?_) (fun b13 => ?_)
      · exfalso; omega
      · refine V_iconst dX11_known_16 ?_
        exact V_zreturn rfl (by first | exact Or.inl rfl | exact Or.inr rfl | (unfold bz; split <;> simp)) ⟨rfl, rfl, hS, fun _ _ _ _ => rfl, Or.inl rfl, rfl⟩ dX11_known_17
end NOTES

