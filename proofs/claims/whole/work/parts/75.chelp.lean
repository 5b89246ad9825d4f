/-! the class itself: its questions -/
/-- what holds of the class's world in every call -/
def TW (T : TT) (b : Nat) (ρ : RT) : Prop := Fx ρ ∧ (b = 5 ∨ b = 30) ∧ ρ 0 3 = some b ∧ ρ 55 0 = some b ∧ TOK T ∧ TPF T
theorem tha1 {T : TT} (hk : TOK T) {m : Int} : tha T 1 m = okM T m := by unfold tha okM; rw [show T 104 (12 + 1) = T 104 13 from rfl, hk.me.1]
theorem tha0 {T : TT} (hk : TOK T) {m : Int} : tha T 0 m = okL T m := by unfold tha okL; rw [show T 104 (12 + 0) = T 104 12 from rfl, hk.la.1]
theorem tha2 {T : TT} (hk : TOK T) {m : Int} : tha T 2 m = okH T m := by unfold tha okH; rw [show T 104 (12 + 2) = T 104 14 from rfl, hk.ho.1]
theorem tha3 {T : TT} (hk : TOK T) {m : Int} : tha T 3 m = okP T m := by unfold tha okP; rw [show T 104 (12 + 3) = T 104 15 from rfl, hk.pl.1]
section HELP
variable {T : TT} {b : Nat} {ρ : RT} {f : IT} {g : JT}
theorem c_hasM (hW : TW T b ρ) (hC : CT T b f) {m : Int} (rm : ri m) : C_X7_has [.ref b, .int (iz 1), .int (iz m)] ρ f g (fun r ρ' f' g' => r = some (.int (iz (bz (okM T m)))) ∧ ρ' = ρ ∧ f' = f ∧ g' = g) := by
  have := c_has (g := g) hW.1 hW.2.1 hC hW.2.2.2.2.1 (i := 1) (by omega) rm
  rw [tha1 hW.2.2.2.2.1] at this
  exact this
theorem c_hasL (hW : TW T b ρ) (hC : CT T b f) {m : Int} (rm : ri m) : C_X7_has [.ref b, .int (iz 0), .int (iz m)] ρ f g (fun r ρ' f' g' => r = some (.int (iz (bz (okL T m)))) ∧ ρ' = ρ ∧ f' = f ∧ g' = g) := by
  have := c_has (g := g) hW.1 hW.2.1 hC hW.2.2.2.2.1 (i := 0) (by omega) rm
  rw [tha0 hW.2.2.2.2.1] at this
  exact this
theorem c_hasH (hW : TW T b ρ) (hC : CT T b f) {m : Int} (rm : ri m) : C_X7_has [.ref b, .int (iz 2), .int (iz m)] ρ f g (fun r ρ' f' g' => r = some (.int (iz (bz (okH T m)))) ∧ ρ' = ρ ∧ f' = f ∧ g' = g) := by
  have := c_has (g := g) hW.1 hW.2.1 hC hW.2.2.2.2.1 (i := 2) (by omega) rm
  rw [tha2 hW.2.2.2.2.1] at this
  exact this
theorem c_hasP (hW : TW T b ρ) (hC : CT T b f) {m : Int} (rm : ri m) : C_X7_has [.ref b, .int (iz 3), .int (iz m)] ρ f g (fun r ρ' f' g' => r = some (.int (iz (bz (okP T m)))) ∧ ρ' = ρ ∧ f' = f ∧ g' = g) := by
  have := c_has (g := g) hW.1 hW.2.1 hC hW.2.2.2.2.1 (i := 3) (by omega) rm
  rw [tha3 hW.2.2.2.2.1] at this
  exact this
theorem c_isPace {n : Int} (hn : ri n) : C_X11_isPace [.int (iz n)] ρ f g (fun r ρ' f' g' => r = some (.int (iz (bz (zin n 1 9)))) ∧ ρ' = ρ ∧ f' = f ∧ g' = g) := by
  refine Ct.ofV (by decide) rfl (Nat.le_of_ble_eq_true rfl) ?_
  refine V_il0n dX11_isPace_0 ?_
  refine V_iconst dX11_isPace_1 ?_
  refine V_icmp_lt (tgt := 15) dX11_isPace_2 rfl (by first | assumption | (unfold ri at *; omega)) (by first | assumption | (unfold ri at *; omega)) (fun b2 => ?_) (fun b2 => ?_)
  · refine V_iconst dX11_isPace_15 ?_
    exact V_zreturn rfl (by first | exact Or.inl rfl | exact Or.inr rfl | (unfold bz; split <;> simp)) ⟨by unfold zin bz; simp only [decide_eq_true_eq]; split <;> first | rfl | (exfalso; omega), rfl, rfl, rfl⟩ dX11_isPace_16
  · refine V_il0n dX11_isPace_5 ?_
    refine V_bipush dX11_isPace_6 rfl ?_
    refine V_icmp_gt (tgt := 15) dX11_isPace_8 rfl (by first | assumption | (unfold ri at *; omega)) (by first | assumption | (unfold ri at *; omega)) (fun b8 => ?_) (fun b8 => ?_)
    · refine V_iconst dX11_isPace_15 ?_
      exact V_zreturn rfl (by first | exact Or.inl rfl | exact Or.inr rfl | (unfold bz; split <;> simp)) ⟨by unfold zin bz; simp only [decide_eq_true_eq]; split <;> first | rfl | (exfalso; omega), rfl, rfl, rfl⟩ dX11_isPace_16
    · refine V_iconst dX11_isPace_11 ?_
      refine V_goto (tgt := 16) dX11_isPace_12 rfl ?_
      exact V_zreturn rfl (by first | exact Or.inl rfl | exact Or.inr rfl | (unfold bz; split <;> simp)) ⟨by unfold zin bz; simp only [decide_eq_true_eq]; split <;> first | rfl | (exfalso; omega), rfl, rfl, rfl⟩ dX11_isPace_16
theorem c_isPair {n : Int} (hn : ri n) : C_X11_isPair [.int (iz n)] ρ f g (fun r ρ' f' g' => r = some (.int (iz (bz (zin n 0 1)))) ∧ ρ' = ρ ∧ f' = f ∧ g' = g) := by
  refine Ct.ofV (by decide) rfl (Nat.le_of_ble_eq_true rfl) ?_
  refine V_il0n dX11_isPair_0 ?_
  refine V_if_eq (tgt := 9) dX11_isPair_1 rfl (by first | assumption | (unfold ri at *; omega)) (fun b1 => ?_) (fun b1 => ?_)
  · refine V_iconst dX11_isPair_9 ?_
    refine V_goto (tgt := 14) dX11_isPair_10 rfl ?_
    exact V_zreturn rfl (by first | exact Or.inl rfl | exact Or.inr rfl | (unfold bz; split <;> simp)) ⟨by unfold zin bz; simp only [decide_eq_true_eq]; split <;> first | rfl | (exfalso; omega), rfl, rfl, rfl⟩ dX11_isPair_14
  · refine V_il0n dX11_isPair_4 ?_
    refine V_iconst dX11_isPair_5 ?_
    refine V_icmp_ne (tgt := 13) dX11_isPair_6 rfl (by first | assumption | (unfold ri at *; omega)) (by first | assumption | (unfold ri at *; omega)) (fun b6 => ?_) (fun b6 => ?_)
    · refine V_iconst dX11_isPair_13 ?_
      exact V_zreturn rfl (by first | exact Or.inl rfl | exact Or.inr rfl | (unfold bz; split <;> simp)) ⟨by unfold zin bz; simp only [decide_eq_true_eq]; split <;> first | rfl | (exfalso; omega), rfl, rfl, rfl⟩ dX11_isPair_14
    · refine V_iconst dX11_isPair_9 ?_
      refine V_goto (tgt := 14) dX11_isPair_10 rfl ?_
      exact V_zreturn rfl (by first | exact Or.inl rfl | exact Or.inr rfl | (unfold bz; split <;> simp)) ⟨by unfold zin bz; simp only [decide_eq_true_eq]; split <;> first | rfl | (exfalso; omega), rfl, rfl, rfl⟩ dX11_isPair_14
theorem c_canRun (hW : TW T b ρ) (hC : CT T b f) {m p : Int} (rm : ri m) (rp : ri p) : C_X11_canRun [.ref 0, .int (iz m), .int (iz p)] ρ f g (fun r ρ' f' g' => r = some (.int (iz (bz (okM T m && okP T p)))) ∧ ρ' = ρ ∧ f' = f ∧ g' = g) := by
  refine Ct.ofV (by decide) rfl (Nat.le_of_ble_eq_true rfl) ?_
  have hb := hW.2.1
  have hρ := hW.1
  refine V_al0n dX11_canRun_0 ?_
  refine V_getR kk0 (by decide) fl_X11_29 hW.2.2.1 dX11_canRun_1 ?_
  refine V_iconst dX11_canRun_4 ?_
  refine V_il1n dX11_canRun_5 ?_
  refine V_callV (as := [_, _]) ml_X11_160 im_X7_has se_X7_has (kb_0 hb) (by decide) (kl_0 hb) dX11_canRun_6 rfl rfl (by decide) (by decide) (Nat.le_of_ble_eq_true rfl) (by decide) (by decide) rfl (c_hasM hW hC rm) ?_
  refine pq4 ?_
  refine V_bt (tgt := 28) dX11_canRun_9 rfl (fun b9 => ?_) (fun b9 => ?_)
  · refine V_iconst dX11_canRun_28 ?_
    exact V_zreturn rfl (by first | exact Or.inl rfl | exact Or.inr rfl | (unfold bz; split <;> simp)) ⟨by first | (rw [b9, b21]; rfl) | (rw [b9]; rfl), rfl, rfl, rfl⟩ dX11_canRun_29
  · refine V_al0n dX11_canRun_12 ?_
    refine V_getR kk0 (by decide) fl_X11_29 hW.2.2.1 dX11_canRun_13 ?_
    refine V_iconst dX11_canRun_16 ?_
    refine V_il2n dX11_canRun_17 ?_
    refine V_callV (as := [_, _]) ml_X11_160 im_X7_has se_X7_has (kb_0 hb) (by decide) (kl_0 hb) dX11_canRun_18 rfl rfl (by decide) (by decide) (Nat.le_of_ble_eq_true rfl) (by decide) (by decide) rfl (c_hasP hW hC rp) ?_
    refine pq4 ?_
    refine V_bt (tgt := 28) dX11_canRun_21 rfl (fun b21 => ?_) (fun b21 => ?_)
    · refine V_iconst dX11_canRun_28 ?_
      exact V_zreturn rfl (by first | exact Or.inl rfl | exact Or.inr rfl | (unfold bz; split <;> simp)) ⟨by first | (rw [b9, b21]; rfl) | (rw [b9]; rfl), rfl, rfl, rfl⟩ dX11_canRun_29
    · refine V_iconst dX11_canRun_24 ?_
      refine V_goto (tgt := 29) dX11_canRun_25 rfl ?_
      exact V_zreturn rfl (by first | exact Or.inl rfl | exact Or.inr rfl | (unfold bz; split <;> simp)) ⟨by first | (rw [b9, b21]; rfl) | (rw [b9]; rfl), rfl, rfl, rfl⟩ dX11_canRun_29
theorem c_canHold (hW : TW T b ρ) (hC : CT T b f) {m p : Int} (rm : ri m) (rp : ri p) : C_X11_canHold [.ref 0, .int (iz m), .int (iz p)] ρ f g (fun r ρ' f' g' => r = some (.int (iz (bz (okM T m && okH T p)))) ∧ ρ' = ρ ∧ f' = f ∧ g' = g) := by
  refine Ct.ofV (by decide) rfl (Nat.le_of_ble_eq_true rfl) ?_
  have hb := hW.2.1
  have hρ := hW.1
  refine V_al0n dX11_canHold_0 ?_
  refine V_getR kk0 (by decide) fl_X11_29 hW.2.2.1 dX11_canHold_1 ?_
  refine V_iconst dX11_canHold_4 ?_
  refine V_il1n dX11_canHold_5 ?_
  refine V_callV (as := [_, _]) ml_X11_160 im_X7_has se_X7_has (kb_0 hb) (by decide) (kl_0 hb) dX11_canHold_6 rfl rfl (by decide) (by decide) (Nat.le_of_ble_eq_true rfl) (by decide) (by decide) rfl (c_hasM hW hC rm) ?_
  refine pq4 ?_
  refine V_bt (tgt := 28) dX11_canHold_9 rfl (fun b9 => ?_) (fun b9 => ?_)
  · refine V_iconst dX11_canHold_28 ?_
    exact V_zreturn rfl (by first | exact Or.inl rfl | exact Or.inr rfl | (unfold bz; split <;> simp)) ⟨by first | (rw [b9, b21]; rfl) | (rw [b9]; rfl), rfl, rfl, rfl⟩ dX11_canHold_29
  · refine V_al0n dX11_canHold_12 ?_
    refine V_getR kk0 (by decide) fl_X11_29 hW.2.2.1 dX11_canHold_13 ?_
    refine V_iconst dX11_canHold_16 ?_
    refine V_il2n dX11_canHold_17 ?_
    refine V_callV (as := [_, _]) ml_X11_160 im_X7_has se_X7_has (kb_0 hb) (by decide) (kl_0 hb) dX11_canHold_18 rfl rfl (by decide) (by decide) (Nat.le_of_ble_eq_true rfl) (by decide) (by decide) rfl (c_hasH hW hC rp) ?_
    refine pq4 ?_
    refine V_bt (tgt := 28) dX11_canHold_21 rfl (fun b21 => ?_) (fun b21 => ?_)
    · refine V_iconst dX11_canHold_28 ?_
      exact V_zreturn rfl (by first | exact Or.inl rfl | exact Or.inr rfl | (unfold bz; split <;> simp)) ⟨by first | (rw [b9, b21]; rfl) | (rw [b9]; rfl), rfl, rfl, rfl⟩ dX11_canHold_29
    · refine V_iconst dX11_canHold_24 ?_
      refine V_goto (tgt := 29) dX11_canHold_25 rfl ?_
      exact V_zreturn rfl (by first | exact Or.inl rfl | exact Or.inr rfl | (unfold bz; split <;> simp)) ⟨by first | (rw [b9, b21]; rfl) | (rw [b9]; rfl), rfl, rfl, rfl⟩ dX11_canHold_29
theorem c_areMen (hW : TW T b ρ) (hC : CT T b f) {m : Int} (rm : ri m) : C_X11_areMen [.ref 0, .int (iz m)] ρ f g (fun r ρ' f' g' => r = some (.int (iz (bz (decide (0 < m ∧ m < 2 ^ nMe T))))) ∧ ρ' = ρ ∧ f' = f ∧ g' = g) := by
  have h5 := hW.2.2.2.2.1.me
  have hp : (2 : Int) ^ nMe T ≤ 32 ∧ 1 ≤ (2 : Int) ^ nMe T := by
    rcases (show nMe T = 0 ∨ nMe T = 1 ∨ nMe T = 2 ∨ nMe T = 3 ∨ nMe T = 4 ∨ nMe T = 5 by omega) with e | e | e | e | e | e <;> rw [e] <;> decide
  have e13 : T 104 (12 + 1) = (nMe T : Int) := h5.1
  refine Ct.ofV (by decide) rfl (Nat.le_of_ble_eq_true rfl) ?_
  have hb := hW.2.1
  have hρ := hW.1
  refine V_il1n dX11_areMen_0 ?_
  refine V_if_le (tgt := 22) dX11_areMen_1 rfl (by first | assumption | (unfold ri at *; omega)) (fun b1 => ?_) (fun b1 => ?_)
  · refine V_iconst dX11_areMen_22 ?_
    exact V_zreturn rfl (by first | exact Or.inl rfl | exact Or.inr rfl | (unfold bz; split <;> simp)) ⟨by unfold bz; simp only [decide_eq_true_eq]; congr 3; split <;> omega, rfl, rfl, rfl⟩ dX11_areMen_23
  · refine V_il1n dX11_areMen_4 ?_
    refine V_iconst dX11_areMen_5 ?_
    refine V_al0n dX11_areMen_6 ?_
    refine V_getR kk0 (by decide) fl_X11_29 hW.2.2.1 dX11_areMen_7 ?_
    refine V_iconst dX11_areMen_10 ?_
    refine V_callV (as := [_]) ml_X11_271 im_X7_size se_X7_size (kb_0 hb) (by decide) (kl_0 hb) dX11_areMen_11 rfl rfl (by decide) (by decide) (Nat.le_of_ble_eq_true rfl) (by decide) (by decide) rfl (c_size hW.1 hW.2.1 hC (i := 1) (by omega)) ?_
    refine pq4 ?_
    refine V_ishl dX11_areMen_14 (iz_shlE (b := nMe T) (v := 2 ^ nMe T) e13 (by omega) (by omega)) ?_
    refine V_icmp_ge (tgt := 22) dX11_areMen_15 rfl (by first | assumption | (unfold ri; omega)) (by first | assumption | (unfold ri; omega)) (fun b15 => ?_) (fun b15 => ?_)
    · refine V_iconst dX11_areMen_22 ?_
      exact V_zreturn rfl (by first | exact Or.inl rfl | exact Or.inr rfl | (unfold bz; split <;> simp)) ⟨by unfold bz; simp only [decide_eq_true_eq]; congr 3; split <;> omega, rfl, rfl, rfl⟩ dX11_areMen_23
    · refine V_iconst dX11_areMen_18 ?_
      refine V_goto (tgt := 23) dX11_areMen_19 rfl ?_
      exact V_zreturn rfl (by first | exact Or.inl rfl | exact Or.inr rfl | (unfold bz; split <;> simp)) ⟨by unfold bz; simp only [decide_eq_true_eq]; congr 3; split <;> omega, rfl, rfl, rfl⟩ dX11_areMen_23
theorem c_isBend (hW : TW T b ρ) (hC : CT T b f) {k : Int} (rk : ri k) : C_X11_isBend [.ref 0, .int (iz k)] ρ f g (fun r ρ' f' g' => r = some (.int (iz (bz (okL T k && decide (T 110 k.toNat = 1))))) ∧ ρ' = ρ ∧ f' = f ∧ g' = g) := by
  have hk := hW.2.2.2.2.1
  refine Ct.ofV (by decide) rfl (Nat.le_of_ble_eq_true rfl) ?_
  have hb := hW.2.1
  have hρ := hW.1
  have ev : okL T k = true → tat T 0 k 2 = T 110 k.toNat ∧ (T 110 k.toNat = 0 ∨ T 110 k.toNat = 1) := fun h => by
    unfold okL at h
    simp at h
    obtain ⟨n, rfl⟩ : ∃ n : Nat, k = n := ⟨k.toNat, by omega⟩
    have := tat0 hk (i := n) (j := 2) (by omega) (by omega)
    rw [Int.toNat_natCast]
    exact ⟨this, (hk.lane (k := n) (by omega)).2.2.1⟩
  refine V_al0n dX11_isBend_0 ?_
  refine V_getR kk0 (by decide) fl_X11_29 hW.2.2.1 dX11_isBend_1 ?_
  refine V_iconst dX11_isBend_4 ?_
  refine V_il1n dX11_isBend_5 ?_
  refine V_callV (as := [_, _]) ml_X11_160 im_X7_has se_X7_has (kb_0 hb) (by decide) (kl_0 hb) dX11_isBend_6 rfl rfl (by decide) (by decide) (Nat.le_of_ble_eq_true rfl) (by decide) (by decide) rfl (c_hasL hW hC rk) ?_
  refine pq4 ?_
  refine V_bt (tgt := 29) dX11_isBend_9 rfl (fun b9 => ?_) (fun b9 => ?_)
  · refine V_iconst dX11_isBend_29 ?_
    exact V_zreturn rfl (by first | exact Or.inl rfl | exact Or.inr rfl | (unfold bz; split <;> simp)) ⟨by first | (have e := ev b9; rw [b9, Bool.true_and]; unfold bz; simp only [decide_eq_true_eq]; congr 3; split <;> omega) | (rw [b9]; rfl), rfl, rfl, rfl⟩ dX11_isBend_30
  · refine V_al0n dX11_isBend_12 ?_
    refine V_getR kk0 (by decide) fl_X11_29 hW.2.2.1 dX11_isBend_13 ?_
    refine V_iconst dX11_isBend_16 ?_
    refine V_il1n dX11_isBend_17 ?_
    refine V_iconst dX11_isBend_18 ?_
    refine V_callV (as := [_, _, _]) ml_X11_176 im_X7_at se_X7_at (kb_0 hb) (by decide) (kl_0 hb) dX11_isBend_19 rfl rfl (by decide) (by decide) (Nat.le_of_ble_eq_true rfl) (by decide) (by decide) rfl (c_at hW.1 hW.2.1 hC hk (i := 0) (by omega) rk (by unfold ri; omega)) ?_
    refine pq4 ?_
    refine V_if_eq (tgt := 29) dX11_isBend_22 rfl (tat_r hk (by omega)) (fun b22 => ?_) (fun b22 => ?_)
    · refine V_iconst dX11_isBend_29 ?_
      exact V_zreturn rfl (by first | exact Or.inl rfl | exact Or.inr rfl | (unfold bz; split <;> simp)) ⟨by first | (have e := ev b9; rw [b9, Bool.true_and]; unfold bz; simp only [decide_eq_true_eq]; congr 3; split <;> omega) | (rw [b9]; rfl), rfl, rfl, rfl⟩ dX11_isBend_30
    · refine V_iconst dX11_isBend_25 ?_
      refine V_goto (tgt := 30) dX11_isBend_26 rfl ?_
      exact V_zreturn rfl (by first | exact Or.inl rfl | exact Or.inr rfl | (unfold bz; split <;> simp)) ⟨by first | (have e := ev b9; rw [b9, Bool.true_and]; unfold bz; simp only [decide_eq_true_eq]; congr 3; split <;> omega) | (rw [b9]; rfl), rfl, rfl, rfl⟩ dX11_isBend_30
theorem c_makeReady (hW : TW T b ρ) (hC : CT T b f) {fl0 ra0 : Bool} (hG : GI T fl0 ra0 f g) (h5 : f 55 5 < 1000000) {m : Nat} (hm : m < nMe T) {sk : Int} {ra : Bool} (hs : f 0 5 = sk) (hsk : 0 ≤ sk ∧ sk ≤ 30) (hr : f 0 6 = bz ra) : C_X11_makeReady [.ref 0, .int (iz (m : Int))] ρ f g (fun r ρ' f' g' => r = none ∧ ρ' = ρ ∧ g' = g ∧ LU T false ra sk (T 115 m) f g f') := by
  have hk := hW.2.2.2.2.1
  have t := tat1 hk (j := 2) hm (by omega)
  simp [tcl] at t
  have hma := hk.man hm
  have h5' := hk.me
  refine Ct.ofV (by decide) rfl (Nat.le_of_ble_eq_true rfl) ?_
  have hb := hW.2.1
  have hρ := hW.1
  have hat := c_at (f := f) (g := g) hW.1 hW.2.1 hC hk (i := 1) (by omega) (k := (m : Int)) (j := 2) (by unfold ri; omega) (by unfold ri; omega)
  rw [t] at hat
  refine V_al0n dX11_makeReady_0 ?_
  refine V_getR kk0 (by decide) fl_X11_48 (fx_0_7 hW.1) dX11_makeReady_1 ?_
  refine V_al0n dX11_makeReady_4 ?_
  refine V_getR kk0 (by decide) fl_X11_29 hW.2.2.1 dX11_makeReady_5 ?_
  refine V_iconst dX11_makeReady_8 ?_
  refine V_il1n dX11_makeReady_9 ?_
  refine V_iconst dX11_makeReady_10 ?_
  refine V_callV (as := [_, _, _]) ml_X11_176 im_X7_at se_X7_at (kb_0 hb) (by decide) (kl_0 hb) dX11_makeReady_11 rfl rfl (by decide) (by decide) (Nat.le_of_ble_eq_true rfl) (by decide) (by decide) rfl (hat) ?_
  refine pq4 ?_
  refine V_al0n dX11_makeReady_14 ?_
  refine V_getI kk0 (by decide) fl_X11_36 hs dX11_makeReady_15 ?_
  refine V_al0n dX11_makeReady_18 ?_
  refine V_getZ kk0 (by decide) fl_X11_39 hr dX11_makeReady_19 ?_
  refine V_iconst dX11_makeReady_22 ?_
  refine V_callV (as := [_, _, _, _]) ml_X11_313 im_X0_lieUnder se_X0_lieUnder kk55 (by decide) (by decide) dX11_makeReady_23 rfl rfl (by decide) (by decide) (Nat.le_of_ble_eq_true rfl) (by decide) (by decide) rfl (c_lieUnder (fl := false) hW.1 hW.2.2.2.1 hW.2.1 hC hk hG h5 (by omega) hsk) ?_
  rintro r23 ρ23 f23 g23 ⟨rfl, s23_0, s23_1, q⟩
  obtain rfl := s23_0.symm
  obtain rfl := s23_1.symm
  exact V_return rfl ⟨rfl, rfl, rfl, q⟩ dX11_makeReady_26
end HELP

