/-! questions that ask the text alone -/
section ASKS
variable {T : TT} {b : Nat} {ρ : RT} {f : IT} {g : JT}
theorem w_rfind {Q : QT} {q n : Nat} (hq : kd q = (3, 0)) (hq1 : kd (q + 1) = (13, n)) (hn : n ≤ 1000) (hρn : ρ q 2 = some (q + 1)) {z : Nat} (hz : f q 4 = (z : Int)) (hzn : z ≤ n) (hmo : f q 0 = (n : Int)) {x : Int} (hx : ri x) (hr : ∀ j, j < z → ri (f (q + 1) j)) (hQ : Q (some (.int (iz (fnd (f (q + 1)) 0 z x)))) ρ f g) (i : Nat) (hi : i ≤ z) (hb : ∀ j, j < i → f (q + 1) j ≠ x) : V_X3_find Q 2 [.ref q, .int (iz x), .int (iz (i : Int))] [] ρ f g := by
  by_cases e : i = z
  · subst e
    refine V_il2n dX3_find_2 ?_
    refine V_al0n dX3_find_3 ?_
    refine V_getI hq (kdlt hq (by decide)) fl_X3_9 hz dX3_find_4 ?_
    refine V_icmp_ge (tgt := 36) dX3_find_7 rfl (by first | assumption | (unfold ri at *; omega)) (by first | assumption | (unfold ri at *; omega)) (fun b7 => ?_) (fun b7 => ?_)
    · refine V_iconst dX3_find_36 ?_
      exact V_ireturn rfl (by rw [fnd_no (fun j hj => by rw [Nat.zero_add]; exact hb j hj)] at hQ; exact hQ) dX3_find_37
    · exfalso; omega
  · refine V_il2n dX3_find_2 ?_
    refine V_al0n dX3_find_3 ?_
    refine V_getI hq (kdlt hq (by decide)) fl_X3_9 hz dX3_find_4 ?_
    refine V_icmp_ge (tgt := 36) dX3_find_7 rfl (by first | assumption | (unfold ri at *; omega)) (by first | assumption | (unfold ri at *; omega)) (fun b7 => ?_) (fun b7 => ?_)
    · exfalso; omega
    · refine V_il2n dX3_find_10 ?_
      refine V_al0n dX3_find_11 ?_
      refine V_getI hq (kdlt hq (by decide)) fl_X3_15 hmo dX3_find_12 ?_
      refine V_icmp_ge (tgt := 36) dX3_find_15 rfl (by unfold ri; omega) (by unfold ri; omega) (fun b15 => ?_) (fun b15 => ?_)
      · exfalso; omega
      · refine V_al0n dX3_find_18 ?_
        refine V_getR hq (kdlt hq (by decide)) fl_X3_21 hρn dX3_find_19 ?_
        refine V_il2n dX3_find_22 ?_
        refine V_iald (k := i) hq1 (kdlt hq1 (by decide)) (by first | rfl | omega) (by omega) (by first | decide | assumption | omega) rfl dX3_find_23 ?_
        refine V_il1n dX3_find_24 ?_
        refine V_icmp_ne (tgt := 30) dX3_find_25 rfl (hr i (by omega)) hx (fun b25 => ?_) (fun b25 => ?_)
        · refine V_inc2 dX3_find_30 (by decide) rfl ?_
          refine V_goto (tgt := 2) dX3_find_33 rfl ?_
          exact w_rfind hq hq1 hn hρn hz hzn hmo hx hr hQ (i + 1) (by omega) (fun j hj => by by_cases e2 : j = i; (rw [e2]; exact b25); exact hb j (by omega))
        · refine V_il2n dX3_find_28 ?_
          exact V_ireturn rfl (by rw [fnd_yes (j := i) (by omega) (by rw [Nat.zero_add]; exact b25) (fun j hj => by rw [Nat.zero_add]; exact hb j hj)] at hQ; exact hQ) dX3_find_29
termination_by z - i
theorem c_rfind {q n : Nat} (hq : kd q = (3, 0)) (hq1 : kd (q + 1) = (13, n)) (hn : n ≤ 1000) (hρn : ρ q 2 = some (q + 1)) {z : Nat} (hz : f q 4 = (z : Int)) (hzn : z ≤ n) (hmo : f q 0 = (n : Int)) {x : Int} (hx : ri x) (hr : ∀ j, j < z → ri (f (q + 1) j)) : C_X3_find [.ref q, .int (iz x)] ρ f g (fun r ρ' f' g' => r = some (.int (iz (fnd (f (q + 1)) 0 z x))) ∧ ρ' = ρ ∧ f' = f ∧ g' = g) := by
  refine Ct.ofV (by decide) rfl (Nat.le_of_ble_eq_true rfl) ?_
  refine V_iconst dX3_find_0 ?_
  refine V_is2n dX3_find_1 (by decide) rfl ?_
  exact w_rfind hq hq1 hn hρn hz hzn hmo hx hr ⟨rfl, rfl, rfl, rfl⟩ 0 (by omega) (fun j hj => by omega)
theorem namT_ri (hk : TOK T) (hN : NOK T) {i k : Nat} (hi : i < 5) (hkn : (k : Int) < T 104 (12 + i)) : ri (namT T i k) := by
  have hn := hk.nk hi
  rcases (show i = 0 ∨ i = 1 ∨ i = 2 ∨ i = 3 ∨ i = 4 by omega) with rfl | rfl | rfl | rfl | rfl
  · exact hN 107 k (by have : half 107 = 6 := rfl; have : mxK 0 = 6 := rfl; omega)
  · exact hN 112 k (by have : half 112 = 5 := rfl; have : mxK 1 = 5 := rfl; omega)
  · exact hN 116 k (by have : half 116 = 3 := rfl; have : mxK 2 = 3 := rfl; omega)
  · exact hN 120 k (by have : half 120 = 5 := rfl; have : mxK 3 = 5 := rfl; omega)
  · exact hN 124 k (by have : half 124 = 4 := rfl; have : mxK 4 = 4 := rfl; omega)
theorem aNamed_i (hk : TOK T) {i : Nat} (hi : i < 5) {x : Int} : aNamed T (i : Int) x = fnd (namT T i) 0 (T 104 (12 + i)).toNat x := by
  rcases (show i = 0 ∨ i = 1 ∨ i = 2 ∨ i = 3 ∨ i = 4 by omega) with rfl | rfl | rfl | rfl | rfl <;> rfl
theorem c_named (hW : TW T b ρ) (hC : CT T b f) (hN : NOK T) {w x : Int} (rw_ : ri w) (rx : ri x) : C_X11_named [.ref 0, .int (iz w), .int (iz x)] ρ f g (fun r ρ' f' g' => r = some (.int (iz (aNamed T w x))) ∧ ρ' = ρ ∧ f' = f ∧ g' = g) := by
  have hk := hW.2.2.2.2.1
  have hρ := hW.1
  have hb := hW.2.1
  refine Ct.ofV (by decide) rfl (Nat.le_of_ble_eq_true rfl) ?_
  by_cases c : 0 ≤ w ∧ w ≤ 4
  · obtain ⟨i, rfl⟩ : ∃ i : Nat, w = i := ⟨w.toNat, by omega⟩
    have hi : i < 5 := by omega
    have hkd := kdR hb hi
    have hfx := fxR hρ hb hi
    have hn := hk.nk hi
    have hz : f (b + 2 + 3 * i) 4 = (((T 104 (12 + i)).toNat : Nat) : Int) := by rw [(hC.1 i hi).1]; omega
    have hcf : C_X3_find [.ref (b + 2 + 3 * i), .int (iz x)] ρ f g (fun r ρ' f' g' => r = some (.int (iz (aNamed T (i : Int) x))) ∧ ρ' = ρ ∧ f' = f ∧ g' = g) := by
      have := c_rfind (f := f) (g := g) (q := b + 2 + 3 * i) (n := mxK i) hkd.1 (by rw [show b + 2 + 3 * i + 1 = b + 3 + 3 * i by omega]; exact hkd.2.1) (by omega) (by rw [show b + 2 + 3 * i + 1 = b + 3 + 3 * i by omega]; exact hfx.2.1) hz (by omega) (hC.1 i hi).2.1 rx (fun j hj => by rw [show b + 2 + 3 * i + 1 = b + 3 + 3 * i by omega, hC.2.1 i j hi (by omega)]; exact namT_ri hk hN hi (by omega))
      rw [show b + 2 + 3 * i + 1 = b + 3 + 3 * i by omega] at this
      rw [aNamed_i hk hi, ← fnd_cg (r := f (b + 3 + 3 * i)) (fun j hj => by rw [Nat.zero_add]; exact hC.2.1 i j hi (by omega))]
      exact this
    refine V_il1n dX11_named_0 ?_
    refine V_if_lt (tgt := 9) dX11_named_1 rfl (by first | assumption | (unfold ri at *; omega)) (fun b1 => ?_) (fun b1 => ?_)
    · exfalso; omega
    · refine V_il1n dX11_named_4 ?_
      refine V_iconst dX11_named_5 ?_
      refine V_icmp_le (tgt := 11) dX11_named_6 rfl (by first | assumption | (unfold ri at *; omega)) (by first | assumption | (unfold ri at *; omega)) (fun b6 => ?_) (fun b6 => ?_)
      · refine V_al0n dX11_named_11 ?_
        refine V_getR kk0 (by decide) fl_X11_29 hW.2.2.1 dX11_named_12 ?_
        refine V_getR (kb_0 hb) (kl_0 hb) fl_X11_150 (fb_0_0 hρ hb) dX11_named_15 ?_
        refine V_il1n dX11_named_18 ?_
        refine V_aald (k := i) (kb_1 hb) (by decide) (kl_1 hb) (by first | rfl | omega) (by omega) (by decide) hfx.1 dX11_named_19 ?_
        refine V_il2n dX11_named_20 ?_
        refine V_callV (as := [_]) ml_X11_154 im_X3_find se_X3_find hkd.1 (by decide) (kdlt hkd.1 (by decide)) dX11_named_21 rfl rfl (by decide) (by decide) (Nat.le_of_ble_eq_true rfl) (by decide) (by decide) rfl (hcf) ?_
        refine pq4 ?_
        exact V_ireturn rfl ⟨rfl, rfl, rfl, rfl⟩ dX11_named_24
      · exfalso; omega
  · have ea : aNamed T w x = -1 := by unfold aNamed; rw [if_neg (by omega), if_neg (by omega), if_neg (by omega), if_neg (by omega), if_neg (by omega)]
    rw [ea]
    refine V_il1n dX11_named_0 ?_
    refine V_if_lt (tgt := 9) dX11_named_1 rfl (by first | assumption | (unfold ri at *; omega)) (fun b1 => ?_) (fun b1 => ?_)
    · refine V_iconst dX11_named_9 ?_
      exact V_ireturn rfl ⟨rfl, rfl, rfl, rfl⟩ dX11_named_10
    · refine V_il1n dX11_named_4 ?_
      refine V_iconst dX11_named_5 ?_
      refine V_icmp_le (tgt := 11) dX11_named_6 rfl (by first | assumption | (unfold ri at *; omega)) (by first | assumption | (unfold ri at *; omega)) (fun b6 => ?_) (fun b6 => ?_)
      · exfalso; omega
      · refine V_iconst dX11_named_9 ?_
        exact V_ireturn rfl ⟨rfl, rfl, rfl, rfl⟩ dX11_named_10
theorem c_fault (hρ : Fx ρ) {n : Int} (hn : ri n) : C_X11_fault [.ref 0, .int (iz n)] ρ f g (fun r ρ' f' g' => r = some (.int (iz (if n = 0 then f 2 6 else if n = 1 then f 2 7 else -1))) ∧ ρ' = ρ ∧ f' = f ∧ g' = g) := by
  refine Ct.ofV (by decide) rfl (Nat.le_of_ble_eq_true rfl) ?_
  refine V_il1n dX11_fault_0 ?_
  refine V_if_ne (tgt := 12) dX11_fault_1 rfl (by first | assumption | (unfold ri at *; omega)) (fun b1 => ?_) (fun b1 => ?_)
  · refine V_il1n dX11_fault_12 ?_
    refine V_iconst dX11_fault_13 ?_
    refine V_icmp_ne (tgt := 27) dX11_fault_14 rfl (by first | assumption | (unfold ri at *; omega)) (by first | assumption | (unfold ri at *; omega)) (fun b14 => ?_) (fun b14 => ?_)
    · refine V_iconst dX11_fault_27 ?_
      exact V_ireturn rfl ⟨by first | (rw [if_pos (by omega)]) | (rw [if_neg (by omega), if_pos (by omega)]) | (rw [if_neg (by omega), if_neg (by omega)]), rfl, rfl, rfl⟩ dX11_fault_28
    · refine V_al0n dX11_fault_17 ?_
      refine V_getR kk0 (by decide) fl_X11_22 (fx_0_2 hρ) dX11_fault_18 ?_
      refine V_getI kk2 (by decide) fl_X11_147 rfl dX11_fault_21 ?_
      refine V_goto (tgt := 28) dX11_fault_24 rfl ?_
      exact V_ireturn rfl ⟨by first | (rw [if_pos (by omega)]) | (rw [if_neg (by omega), if_pos (by omega)]) | (rw [if_neg (by omega), if_neg (by omega)]), rfl, rfl, rfl⟩ dX11_fault_28
  · refine V_al0n dX11_fault_4 ?_
    refine V_getR kk0 (by decide) fl_X11_22 (fx_0_2 hρ) dX11_fault_5 ?_
    refine V_getI kk2 (by decide) fl_X11_144 rfl dX11_fault_8 ?_
    exact V_ireturn rfl ⟨by first | (rw [if_pos (by omega)]) | (rw [if_neg (by omega), if_pos (by omega)]) | (rw [if_neg (by omega), if_neg (by omega)]), rfl, rfl, rfl⟩ dX11_fault_11
theorem c_pace (hW : TW T b ρ) (hC : CT T b f) {p k : Int} (rp : ri p) (rk : ri k) : C_X11_pace [.ref 0, .int (iz p), .int (iz k)] ρ f g (fun r ρ' f' g' => r = some (.int (iz (aPace T p k))) ∧ ρ' = ρ ∧ f' = f ∧ g' = g) := by
  have hk := hW.2.2.2.2.1
  have hρ := hW.1
  have hb := hW.2.1
  have h6 := hk.la
  refine Ct.ofV (by decide) rfl (Nat.le_of_ble_eq_true rfl) ?_
  unfold aPace
  cases c1 : okP T p with
  | false =>
    rw [if_neg Bool.false_ne_true]
    refine V_al0n dX11_pace_0 ?_
    refine V_getR kk0 (by decide) fl_X11_29 hW.2.2.1 dX11_pace_1 ?_
    refine V_iconst dX11_pace_4 ?_
    refine V_il1n dX11_pace_5 ?_
    refine V_callV (as := [_, _]) ml_X11_160 im_X7_has se_X7_has (kb_0 hb) (by decide) (kl_0 hb) dX11_pace_6 rfl rfl (by decide) (by decide) (Nat.le_of_ble_eq_true rfl) (by decide) (by decide) rfl (c_hasP hW hC rp) ?_
    refine pq4 ?_
    refine V_bf (tgt := 14) dX11_pace_9 rfl (fun b9 => ?_) (fun b9 => ?_)
    · rw [c1] at b9; cases b9
    · refine V_iconst dX11_pace_12 ?_
      exact V_ireturn rfl ⟨rfl, rfl, rfl, rfl⟩ dX11_pace_13
  | true =>
    rw [if_pos rfl]
    obtain ⟨pN, rfl, hp⟩ := okP_at c1
    have t0 := tat30 hk hp
    refine V_al0n dX11_pace_0 ?_
    refine V_getR kk0 (by decide) fl_X11_29 hW.2.2.1 dX11_pace_1 ?_
    refine V_iconst dX11_pace_4 ?_
    refine V_il1n dX11_pace_5 ?_
    refine V_callV (as := [_, _]) ml_X11_160 im_X7_has se_X7_has (kb_0 hb) (by decide) (kl_0 hb) dX11_pace_6 rfl rfl (by decide) (by decide) (Nat.le_of_ble_eq_true rfl) (by decide) (by decide) rfl (c_hasP hW hC rp) ?_
    refine pq4 ?_
    refine V_bf (tgt := 14) dX11_pace_9 rfl (fun b9 => ?_) (fun b9 => ?_)
    · refine V_il2n dX11_pace_14 ?_
      refine V_iconst dX11_pace_15 ?_
      refine V_icmp_ne (tgt := 30) dX11_pace_16 rfl (by first | assumption | (unfold ri at *; omega)) (by first | assumption | (unfold ri at *; omega)) (fun b16 => ?_) (fun b16 => ?_)
      · refine V_al0n dX11_pace_30 ?_
        refine V_getR kk0 (by decide) fl_X11_29 hW.2.2.1 dX11_pace_31 ?_
        refine V_iconst dX11_pace_34 ?_
        refine V_il2n dX11_pace_35 ?_
        refine V_callV (as := [_, _]) ml_X11_160 im_X7_has se_X7_has (kb_0 hb) (by decide) (kl_0 hb) dX11_pace_36 rfl rfl (by decide) (by decide) (Nat.le_of_ble_eq_true rfl) (by decide) (by decide) rfl (c_hasL hW hC rk) ?_
        refine pq4 ?_
        refine V_bt (tgt := 57) dX11_pace_39 rfl (fun b39 => ?_) (fun b39 => ?_)
        · refine V_iconst dX11_pace_57 ?_
          exact V_ireturn rfl ⟨by first | (rw [if_neg (by omega), if_pos b39]; obtain ⟨kN, rfl, hkl⟩ := okL_at b39; rw [tat3 hk hp (by omega), Int.toNat_natCast, Int.toNat_natCast]) | (rw [if_neg (by omega), if_neg (by rw [b39]; exact Bool.false_ne_true)]), rfl, rfl, rfl⟩ dX11_pace_58
        · refine V_al0n dX11_pace_42 ?_
          refine V_getR kk0 (by decide) fl_X11_29 hW.2.2.1 dX11_pace_43 ?_
          refine V_iconst dX11_pace_46 ?_
          refine V_il1n dX11_pace_47 ?_
          refine V_iconst dX11_pace_48 ?_
          refine V_il2n dX11_pace_49 ?_
          refine V_iadd dX11_pace_50 ?_
          refine V_callV (as := [_, _, _]) ml_X11_176 im_X7_at se_X7_at (kb_0 hb) (by decide) (kl_0 hb) dX11_pace_51 rfl rfl (by decide) (by decide) (Nat.le_of_ble_eq_true rfl) (by decide) (by decide) rfl (c_at hρ hb hC hk (i := 3) (by omega) rp (by obtain ⟨kN, rfl, hkl⟩ := okL_at b39; unfold ri; omega)) ?_
          refine pq4 ?_
          refine V_goto (tgt := 58) dX11_pace_54 rfl ?_
          exact V_ireturn rfl ⟨by first | (rw [if_neg (by omega), if_pos b39]; obtain ⟨kN, rfl, hkl⟩ := okL_at b39; rw [tat3 hk hp (by omega), Int.toNat_natCast, Int.toNat_natCast]) | (rw [if_neg (by omega), if_neg (by rw [b39]; exact Bool.false_ne_true)]), rfl, rfl, rfl⟩ dX11_pace_58
      · refine V_al0n dX11_pace_19 ?_
        refine V_getR kk0 (by decide) fl_X11_29 hW.2.2.1 dX11_pace_20 ?_
        refine V_iconst dX11_pace_23 ?_
        refine V_il1n dX11_pace_24 ?_
        refine V_iconst dX11_pace_25 ?_
        refine V_callV (as := [_, _, _]) ml_X11_176 im_X7_at se_X7_at (kb_0 hb) (by decide) (kl_0 hb) dX11_pace_26 rfl rfl (by decide) (by decide) (Nat.le_of_ble_eq_true rfl) (by decide) (by decide) rfl (c_at hρ hb hC hk (i := 3) (by omega) rp (by unfold ri; omega)) ?_
        refine pq4 ?_
        exact V_ireturn rfl ⟨by rw [if_pos (by omega), t0, Int.toNat_natCast], rfl, rfl, rfl⟩ dX11_pace_29
    · rw [c1] at b9; cases b9
theorem c_law (hW : TW T b ρ) (hC : CT T b f) {fl0 ra0 : Bool} (hG : GI T fl0 ra0 f g) (h5 : f 55 5 < 1000000) {sk : Int} {ra : Bool} (hs : f 0 5 = sk) (hsk : 0 ≤ sk ∧ sk ≤ 30) (hr : f 0 6 = bz ra) {w m k pa : Int} (rw_ : ri w) (rm : ri m) (rk : ri k) (rp : ri pa) :
    C_X11_law [.ref 0, .int (iz w), .int (iz m), .int (iz k), .int (iz pa)] ρ f g (fun r ρ' f' g' => r = some (.long (lz (aLaw T ra sk w m k pa))) ∧ ρ' = ρ ∧ QW T b 1 f g f' g') := by
  have hk := hW.2.2.2.2.1
  have hP := hW.2.2.2.2.2
  have hρ := hW.1
  have hb := hW.2.1
  have h6 := hk.la
  have h5m := hk.me
  refine Ct.ofV (by decide) rfl (Nat.le_of_ble_eq_true rfl) ?_
  by_cases c1 : (0 ≤ w ∧ w ≤ 2) ∧ okM T m = true ∧ okL T k = true ∧ zin pa 1 9 = true
  · obtain ⟨hw, c2, c3, c4⟩ := c1
    obtain ⟨mN, rfl, hm⟩ := okM_at c2
    obtain ⟨kN, rfl, hl⟩ := okL_at c3
    obtain ⟨wN, rfl⟩ : ∃ n : Nat, w = n := ⟨w.toNat, by omega⟩
    have hpa : 1 ≤ pa ∧ pa ≤ 9 := by unfold zin at c4; simpa using c4
    have hma := hk.man hm
    have t0 := tat1 hk (j := 0) hm (by omega)
    have t1 := tat1 hk (j := 1) hm (by omega)
    simp [tcl] at t0 t1
    have ea : aLaw T ra sk (wN : Int) (mN : Int) (kN : Int) pa = wthV T (nms T kN false ra sk (T 115 mN) (T 113 mN) (T 114 mN) pa) wN := by
      unfold aLaw wthV
      rw [show zin (wN : Int) 0 2 = true by unfold zin; simpa using hw, c2, c3, c4, Int.toNat_natCast, Int.toNat_natCast, Int.toNat_natCast]
      rcases (hk.law (w := wN) (by omega)).1 with q | q
      · simp [q, ERR]
      · simp [q, ERR]
    rw [ea]
    refine V_il1n dX11_law_0 ?_
    refine V_if_lt (tgt := 41) dX11_law_1 rfl (by first | assumption | (unfold ri at *; omega)) (fun b1 => ?_) (fun b1 => ?_)
    · exfalso; omega
    · refine V_il1n dX11_law_4 ?_
      refine V_iconst dX11_law_5 ?_
      refine V_icmp_gt (tgt := 41) dX11_law_6 rfl (by first | assumption | (unfold ri at *; omega)) (by first | assumption | (unfold ri at *; omega)) (fun b6 => ?_) (fun b6 => ?_)
      · exfalso; omega
      · refine V_al0n dX11_law_9 ?_
        refine V_getR kk0 (by decide) fl_X11_29 hW.2.2.1 dX11_law_10 ?_
        refine V_iconst dX11_law_13 ?_
        refine V_il2n dX11_law_14 ?_
        refine V_callV (as := [_, _]) ml_X11_160 im_X7_has se_X7_has (kb_0 hb) (by decide) (kl_0 hb) dX11_law_15 rfl rfl (by decide) (by decide) (Nat.le_of_ble_eq_true rfl) (by decide) (by decide) rfl (c_hasM hW hC rm) ?_
        refine pq4 ?_
        refine V_bt (tgt := 41) dX11_law_18 rfl (fun b18 => ?_) (fun b18 => ?_)
        · rw [c2] at b18; cases b18
        · refine V_al0n dX11_law_21 ?_
          refine V_getR kk0 (by decide) fl_X11_29 hW.2.2.1 dX11_law_22 ?_
          refine V_iconst dX11_law_25 ?_
          refine V_il3n dX11_law_26 ?_
          refine V_callV (as := [_, _]) ml_X11_160 im_X7_has se_X7_has (kb_0 hb) (by decide) (kl_0 hb) dX11_law_27 rfl rfl (by decide) (by decide) (Nat.le_of_ble_eq_true rfl) (by decide) (by decide) rfl (c_hasL hW hC rk) ?_
          refine pq4 ?_
          refine V_bt (tgt := 41) dX11_law_30 rfl (fun b30 => ?_) (fun b30 => ?_)
          · rw [c3] at b30; cases b30
          · refine V_il4 dX11_law_33 ?_
            refine V_callS (as := [_]) ml_X11_180 sm_X11_isPace dX11_law_35 rfl rfl (by decide) (by decide) (Nat.le_of_ble_eq_true rfl) (by decide) (by decide) rfl (c_isPace rp) ?_
            refine pq4 ?_
            refine V_bf (tgt := 45) dX11_law_38 rfl (fun b38 => ?_) (fun b38 => ?_)
            · refine V_al0n dX11_law_45 ?_
              refine V_il2n dX11_law_46 ?_
              refine V_callV (as := [_]) ml_X11_186 im_X11_makeReady se_X11_makeReady kk0 (by decide) (by decide) dX11_law_47 rfl rfl (by decide) (by decide) (Nat.le_of_ble_eq_true rfl) (by decide) (by decide) rfl (c_makeReady hW hC hG h5 hm hs hsk hr) ?_
              rintro r47 ρ47 f47 g47 ⟨rfl, s47_0, s47_1, q1⟩
              obtain rfl := s47_0.symm
              obtain rfl := s47_1.symm
              have hC2 : CT T b f47 := hC.cg hb (fun a k h1 h2 => q1.1 a k (by omega) (by omega))
              refine V_al0n dX11_law_50 ?_
              refine V_getR kk0 (by decide) fl_X11_48 (fx_0_7 hρ) dX11_law_51 ?_
              refine V_il3n dX11_law_54 ?_
              refine V_il4 dX11_law_55 ?_
              refine V_al0n dX11_law_57 ?_
              refine V_getR kk0 (by decide) fl_X11_29 hW.2.2.1 dX11_law_58 ?_
              refine V_iconst dX11_law_61 ?_
              refine V_il2n dX11_law_62 ?_
              refine V_iconst dX11_law_63 ?_
              refine V_callV (as := [_, _, _]) ml_X11_176 im_X7_at se_X7_at (kb_0 hb) (by decide) (kl_0 hb) dX11_law_64 rfl rfl (by decide) (by decide) (Nat.le_of_ble_eq_true rfl) (by decide) (by decide) rfl (c_at hρ hb hC2 hk (i := 1) (by omega) rm (by unfold ri; omega)) ?_
              refine pq4 ?_
              refine V_al0n dX11_law_67 ?_
              refine V_getR kk0 (by decide) fl_X11_29 hW.2.2.1 dX11_law_68 ?_
              refine V_iconst dX11_law_71 ?_
              refine V_il2n dX11_law_72 ?_
              refine V_iconst dX11_law_73 ?_
              refine V_callV (as := [_, _, _]) ml_X11_176 im_X7_at se_X7_at (kb_0 hb) (by decide) (kl_0 hb) dX11_law_74 rfl rfl (by decide) (by decide) (Nat.le_of_ble_eq_true rfl) (by decide) (by decide) rfl (c_at hρ hb hC2 hk (i := 1) (by omega) rm (by unfold ri; omega)) ?_
              refine pq4 ?_
              rw [t0, t1]
              refine V_callV (as := [_, _, _, _]) ml_X11_189 im_X0_give se_X0_give kk55 (by decide) (by decide) dX11_law_77 rfl rfl (by decide) (by decide) (Nat.le_of_ble_eq_true rfl) (by decide) (by decide) rfl (c_give hρ hW.2.2.2.1 hb hk q1.2.1 hl rp (by unfold ri; omega) (by unfold ri; omega)) ?_
              rintro r77 ρ77 f77 g77 ⟨rfl, s77_0, s77_1, q2, q3⟩
              obtain rfl := s77_0.symm
              obtain rfl := s77_1.symm
              refine V_al0n dX11_law_80 ?_
              refine V_getR kk0 (by decide) fl_X11_29 hW.2.2.1 dX11_law_81 ?_
              refine V_getR (kb_0 hb) (kl_0 hb) fl_X11_193 (fb_0_1 hρ hb) dX11_law_84 ?_
              refine V_il1n dX11_law_87 ?_
              refine V_callV (as := [_]) ml_X11_197 im_X1_worth se_X1_worth (kb_17 hb) (by decide) (kl_17 hb) dX11_law_88 rfl rfl (by decide) (by decide) (Nat.le_of_ble_eq_true rfl) (by decide) (by decide) rfl (c_worth hρ hb hC2 hk hP (w := wN) (by omega) (nm := nms T kN false ra (f47 55 2) (f47 55 1) (T 113 mN) (T 114 mN) pa) (fun n hn => ⟨q2 n hn, nms_inB hk hl (by have := q1.2.1.2.2.2.1; omega) (by have := q1.2.1.2.2.1; omega) (by omega) (by omega) (by omega) n⟩)) ?_
              rintro r88 ρ88 f88 g88 ⟨rfl, s88_0, s88_1, q4⟩
              obtain rfl := s88_0.symm
              obtain rfl := s88_1.symm
              exact V_lreturn rfl ⟨by
  have hcg : ∀ n, n < 8 → us T n = true → nms T kN false ra (f47 55 2) (f47 55 1) (T 113 mN) (T 114 mN) pa n = nms T kN false ra sk (T 115 mN) (T 113 mN) (T 114 mN) pa n := nms_cg (by rw [q1.2.2.2.1, ms_ms]) (by rw [q1.2.2.1, ms_ms]) rfl rfl
  unfold wthV
  rcases (hk.law (w := wN) (by omega)).1 with q | q
  · rw [if_neg (by omega), if_neg (by omega)]
  · rw [lawv_cg hk hP (by omega) q hcg], rfl, ⟨false, ra, q1.2.1.cg (fun _ _ _ _ => rfl) (by rw [q4 60 (by omega), q3 60 (by omega)])⟩, q1.aw.tr ⟨fun _ _ _ _ => rfl, fun a r1 r2 r3 r4 => by rw [q4 a r2, q3 a r3]⟩, q1.ag⟩ dX11_law_91
            · rw [c4] at b38; cases b38
  · have ea : aLaw T ra sk w m k pa = -9223372036854775808 := by
      unfold aLaw
      rw [if_neg (fun q => c1 ?_)]
      simp only [Bool.and_eq_true] at q
      obtain ⟨⟨⟨⟨q1, q2⟩, q3⟩, q4⟩, q5⟩ := q
      exact ⟨by unfold zin at q1; simpa using q1, q3, q4, q5⟩
    rw [ea]
    refine V_il1n dX11_law_0 ?_
    refine V_if_lt (tgt := 41) dX11_law_1 rfl (by first | assumption | (unfold ri at *; omega)) (fun b1 => ?_) (fun b1 => ?_)
    · refine V_ldc2_w (a := -9223372036854775808) kl_X11_184 rfl dX11_law_41 ?_
      exact V_lreturn rfl ⟨rfl, rfl, QW.rf hG (by omega)⟩ dX11_law_44
    · refine V_il1n dX11_law_4 ?_
      refine V_iconst dX11_law_5 ?_
      refine V_icmp_gt (tgt := 41) dX11_law_6 rfl (by first | assumption | (unfold ri at *; omega)) (by first | assumption | (unfold ri at *; omega)) (fun b6 => ?_) (fun b6 => ?_)
      · refine V_ldc2_w (a := -9223372036854775808) kl_X11_184 rfl dX11_law_41 ?_
        exact V_lreturn rfl ⟨rfl, rfl, QW.rf hG (by omega)⟩ dX11_law_44
      · refine V_al0n dX11_law_9 ?_
        refine V_getR kk0 (by decide) fl_X11_29 hW.2.2.1 dX11_law_10 ?_
        refine V_iconst dX11_law_13 ?_
        refine V_il2n dX11_law_14 ?_
        refine V_callV (as := [_, _]) ml_X11_160 im_X7_has se_X7_has (kb_0 hb) (by decide) (kl_0 hb) dX11_law_15 rfl rfl (by decide) (by decide) (Nat.le_of_ble_eq_true rfl) (by decide) (by decide) rfl (c_hasM hW hC rm) ?_
        refine pq4 ?_
        refine V_bt (tgt := 41) dX11_law_18 rfl (fun b18 => ?_) (fun b18 => ?_)
        · refine V_ldc2_w (a := -9223372036854775808) kl_X11_184 rfl dX11_law_41 ?_
          exact V_lreturn rfl ⟨rfl, rfl, QW.rf hG (by omega)⟩ dX11_law_44
        · refine V_al0n dX11_law_21 ?_
          refine V_getR kk0 (by decide) fl_X11_29 hW.2.2.1 dX11_law_22 ?_
          refine V_iconst dX11_law_25 ?_
          refine V_il3n dX11_law_26 ?_
          refine V_callV (as := [_, _]) ml_X11_160 im_X7_has se_X7_has (kb_0 hb) (by decide) (kl_0 hb) dX11_law_27 rfl rfl (by decide) (by decide) (Nat.le_of_ble_eq_true rfl) (by decide) (by decide) rfl (c_hasL hW hC rk) ?_
          refine pq4 ?_
          refine V_bt (tgt := 41) dX11_law_30 rfl (fun b30 => ?_) (fun b30 => ?_)
          · refine V_ldc2_w (a := -9223372036854775808) kl_X11_184 rfl dX11_law_41 ?_
            exact V_lreturn rfl ⟨rfl, rfl, QW.rf hG (by omega)⟩ dX11_law_44
          · refine V_il4 dX11_law_33 ?_
            refine V_callS (as := [_]) ml_X11_180 sm_X11_isPace dX11_law_35 rfl rfl (by decide) (by decide) (Nat.le_of_ble_eq_true rfl) (by decide) (by decide) rfl (c_isPace rp) ?_
            refine pq4 ?_
            refine V_bf (tgt := 45) dX11_law_38 rfl (fun b38 => ?_) (fun b38 => ?_)
            · exact absurd ⟨by omega, b18, b30, b38⟩ c1
            · refine V_ldc2_w (a := -9223372036854775808) kl_X11_184 rfl dX11_law_41 ?_
              exact V_lreturn rfl ⟨rfl, rfl, QW.rf hG (by omega)⟩ dX11_law_44
end ASKS

