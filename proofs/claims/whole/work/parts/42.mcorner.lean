/-! corners -/
def cornO (T : TT) (so k : Int) : Bool := decide (0 < so ∧ so < 2 ^ nMe T) && okL T k && decide (T 110 k.toNat = 1)
theorem div_p0 {a : Int} {n : Nat} (hn : n ≤ 5) (ha : 0 < a) : a / 2 ^ n = 0 ↔ a < 2 ^ n := by
  rcases (show n = 0 ∨ n = 1 ∨ n = 2 ∨ n = 3 ∨ n = 4 ∨ n = 5 by omega) with rfl | rfl | rfl | rfl | rfl | rfl <;> simp <;> omega
theorem c_isCorner {T : TT} {ρ : RT} {f : IT} {g : JT} (hρ : Fx ρ) (hT : MT T f) (hk : TOK T) {so k : Int} (rs : ri so) (rk : ri k) :
    C_X12_isCorner [.ref 104, .int (iz so), .int (iz k)] ρ f g (fun r ρ' f' g' => r = some (.int (iz (bz (cornO T so k)))) ∧ ρ' = ρ ∧ f' = f ∧ g' = g) := by
  have h5 := hk.me
  have h6 := hk.la
  refine Ct.ofV (by decide) rfl (Nat.le_of_ble_eq_true rfl) ?_
  refine V_il1n dX12_isCorner_0 ?_
  refine V_if_le (tgt := 34) dX12_isCorner_1 rfl (by first | assumption | (unfold ri at *; omega)) (fun b1 => ?_) (fun b1 => ?_)
  · refine V_iconst dX12_isCorner_34 ?_
    exact V_zreturn rfl (Or.inl rfl) ⟨by unfold cornO; rw [decide_eq_false (show ¬ (0 < so ∧ so < 2 ^ nMe T) by omega)]; rfl, rfl, rfl, rfl⟩ dX12_isCorner_35
  · have hd := div_p0 h5.2 (a := so) (by omega)
    have hq : ri (so / 2 ^ nMe T) := by unfold ri at *; constructor; (have := Int.ediv_nonneg (a := so) (b := 2 ^ nMe T) (by omega) (Int.pow_nonneg (by decide)); omega); (have := Int.ediv_le_self (2 ^ nMe T) (a := so) (by omega); omega)
    refine V_il1n dX12_isCorner_4 ?_
    refine V_al0n dX12_isCorner_5 ?_
    refine V_getI kk104 (by decide) fl_X12_253 ((hT 104 13 rfl).trans h5.1) dX12_isCorner_6 ?_
    refine V_ishr dX12_isCorner_9 (iz_shr rs (by omega : nMe T < 32)) ?_
    refine V_if_ne (tgt := 34) dX12_isCorner_10 rfl (by first | assumption | (unfold ri at *; omega)) (fun b10 => ?_) (fun b10 => ?_)
    · refine V_iconst dX12_isCorner_34 ?_
      exact V_zreturn rfl (Or.inl rfl) ⟨by unfold cornO; rw [decide_eq_false (show ¬ (0 < so ∧ so < 2 ^ nMe T) from fun q => b10 (hd.mpr q.2))]; rfl, rfl, rfl, rfl⟩ dX12_isCorner_35
    · refine V_al0n dX12_isCorner_13 ?_
      refine V_il2n dX12_isCorner_14 ?_
      refine V_callV (as := [_]) ml_X12_450 im_X12_isLane se_X12_isLane kk104 (by decide) (by decide) dX12_isCorner_15 rfl rfl (by decide) (by decide) (Nat.le_of_ble_eq_true rfl) (by decide) (by decide) rfl (c_isLane rk ((hT 104 12 rfl).trans h6.1) (by unfold ri; omega)) ?_
      refine pq4 ?_
      refine V_bt (tgt := 34) dX12_isCorner_18 rfl (fun b18 => ?_) (fun b18 => ?_)
      · refine V_iconst dX12_isCorner_34 ?_
        exact V_zreturn rfl (Or.inl rfl) ⟨by unfold cornO okL; simp only [b18]; simp [bz], rfl, rfl, rfl⟩ dX12_isCorner_35
      · have c1 := b18
        simp only [decide_eq_true_eq] at c1
        obtain ⟨kN, rfl⟩ : ∃ n : Nat, k = n := ⟨k.toNat, by omega⟩
        have hla := (hk.lane (k := kN) (by omega)).2.2.1
        refine V_al0n dX12_isCorner_21 ?_
        refine V_getR kk104 (by decide) fl_X12_29 (fx_104_33 hρ) dX12_isCorner_22 ?_
        refine V_il2n dX12_isCorner_25 ?_
        refine V_zald (k := kN) kk110 (by decide) (by first | rfl | omega) (by omega) (by first | decide | assumption | omega) (hT.at rfl (by omega : kN < 6)) dX12_isCorner_26 ?_
        refine V_if_eq (tgt := 34) dX12_isCorner_27 rfl (by first | assumption | (unfold ri at *; omega)) (fun b27 => ?_) (fun b27 => ?_)
        · refine V_iconst dX12_isCorner_34 ?_
          exact V_zreturn rfl (Or.inl rfl) ⟨by unfold cornO; rw [Int.toNat_natCast, b27]; simp [bz], rfl, rfl, rfl⟩ dX12_isCorner_35
        · refine V_iconst dX12_isCorner_30 ?_
          refine V_goto (tgt := 35) dX12_isCorner_31 rfl ?_
          exact V_zreturn rfl (Or.inr rfl) ⟨by unfold cornO okL; simp only [b18]; rw [Int.toNat_natCast, decide_eq_true (show T 110 kN = 1 by omega), decide_eq_true (show (0 < so ∧ so < 2 ^ nMe T) from ⟨by omega, hd.mp b10⟩)]; rfl, rfl, rfl, rfl⟩ dX12_isCorner_35
def jmS (T : TT) (ra : Bool) (sk : Int) (k m : Nat) : Int := bl T (nms T k false ra sk (T 115 m) (T 113 m) (T 114 m) 0) 6 5 0 999
def wdS (T : TT) (ra : Bool) (sk : Int) (k m : Nat) : Int := bl T (nms T k false ra sk (T 115 m) (T 113 m) (T 114 m) 0) 7 6 0 999
def KC (f f' : IT) : Prop := ∀ a k, ¬ (a = 104 ∧ (k = 66 ∨ 70 ≤ k ∧ k ≤ 77)) → a ≠ 145 → a ≠ 146 → f' a k = f a k
theorem KC.km {f f' : IT} (h : KC f f') : KM f f' := fun a k hs => h a k (fun q => by
  obtain ⟨rfl, q⟩ := q
  unfold scM at hs
  simp at hs
  omega) (fun q => by subst q; cases hs) (fun q => by subst q; cases hs)
theorem w_lco {T : TT} {Q : QT} {ρ : RT} {f0 : IT} {g0 : JT} (hρ : Fx ρ) (hT0 : MT T f0) (hk : TOK T) {sk : Int} {ra : Bool} (hs : f0 104 67 = sk) (hsk : 0 ≤ sk ∧ sk ≤ 30) (hr : f0 104 68 = bz ra) {so : Int} (rs : ri so) {k : Nat} (hkl : k < nLa T)
    (hQ : ∀ (f : IT) (g : JT), KC f0 f → KG g0 g → (∀ m, m < nMe T → so / 2 ^ m % 2 = 1 → f 145 m = jmS T ra sk k m ∧ f 146 m = wdS T ra sk k m) → Q none ρ f g)
    (m : Nat) (hm : m ≤ nMe T) (f : IT) (g : JT) (hf : KC f0 f) (hg : KG g0 g) (hJ : ∀ j, j < m → so / 2 ^ j % 2 = 1 → f 145 j = jmS T ra sk k j ∧ f 146 j = wdS T ra sk k j) :
    V_X12_layCorner Q 2 [.ref 104, .int (iz so), .int (iz (k : Int)), .int (iz (m : Int))] [] ρ f g := by
  have h5 := hk.me
  have hT := hT0.km hf.km
  by_cases e : m = nMe T
  · subst e
    refine V_il3n dX12_layCorner_2 ?_
    refine V_al0n dX12_layCorner_3 ?_
    refine V_getI kk104 (by decide) fl_X12_253 ((hT 104 13 rfl).trans h5.1) dX12_layCorner_4 ?_
    refine V_icmp_ge (tgt := 73) dX12_layCorner_7 rfl (by first | assumption | (unfold ri at *; omega)) (by first | assumption | (unfold ri at *; omega)) (fun b7 => ?_) (fun b7 => ?_)
    · exact V_return rfl (hQ f g hf hg hJ) dX12_layCorner_73
    · exfalso; omega
  · have hm1 : m < nMe T := by omega
    have hmm := hk.man hm1
    refine V_il3n dX12_layCorner_2 ?_
    refine V_al0n dX12_layCorner_3 ?_
    refine V_getI kk104 (by decide) fl_X12_253 ((hT 104 13 rfl).trans h5.1) dX12_layCorner_4 ?_
    refine V_icmp_ge (tgt := 73) dX12_layCorner_7 rfl (by first | assumption | (unfold ri at *; omega)) (by first | assumption | (unfold ri at *; omega)) (fun b7 => ?_) (fun b7 => ?_)
    · exfalso; omega
    · refine V_il1n dX12_layCorner_10 ?_
      refine V_il3n dX12_layCorner_11 ?_
      refine V_callS (as := [_, _]) ml_X12_573 sm_X12_isOf dX12_layCorner_12 rfl rfl (by decide) (by decide) (Nat.le_of_ble_eq_true rfl) (by decide) (by decide) rfl (c_isOf rs (by omega : m < 32)) ?_
      refine pq4 ?_
      refine V_bf (tgt := 21) dX12_layCorner_15 rfl (fun b15 => ?_) (fun b15 => ?_)
      · refine V_al0n dX12_layCorner_21 ?_
        refine V_il3n dX12_layCorner_22 ?_
        refine V_callV (as := [_]) ml_X12_467 im_X12_begins se_X12_begins kk104 (by decide) (by decide) dX12_layCorner_23 rfl rfl (by decide) (by decide) (Nat.le_of_ble_eq_true rfl) (by decide) (by decide) rfl (c_begins1 hρ hT hk hm1 (ra := ra) ((hf 104 67 (by omega) (by omega) (by omega)).trans hs) ((hf 104 68 (by omega) (by omega) (by omega)).trans hr)) ?_
        rintro r23 ρ23 f23 g23 ⟨rfl, s23_0, hM, km, hT2, kb, s23_1⟩
        obtain rfl := s23_0.symm
        obtain rfl := s23_1.symm
        obtain ⟨m1, m2, m3, m4, m5, m6, m7, m8, m9⟩ := hM
        have nb := nms_inB hk (k := k) hkl (fl := false) (ra := ra) (sk := sk) (wt := T 115 m) (wi := T 113 m) (le := T 114 m) (pa := 0) (by omega) (by omega) (by omega) (by omega) (by omega)
        refine V_al0n dX12_layCorner_26 ?_
        refine V_il2n dX12_layCorner_27 ?_
        refine V_iconst dX12_layCorner_28 ?_
        refine V_callV (as := [_, _]) ml_X12_433 im_X12_layNames se_X12_layNames kk104 (by decide) (by decide) dX12_layCorner_29 rfl rfl (by decide) (by decide) (Nat.le_of_ble_eq_true rfl) (by decide) (by decide) rfl (c_layNames hρ hT2 hk hkl m2 m1 m3 m4 m7 m8 (by unfold ri; simp only [c0]; omega) (by unfold ri; simp only [c0]; omega) (by unfold ri; simp only [s0]; omega) (by unfold ri; simp only [s0]; omega) (by unfold ri; omega)) ?_
        rintro r29 ρ29 f29 g29 ⟨rfl, s29_0, s29_1, n29, e29⟩
        obtain rfl := s29_0.symm
        obtain rfl := s29_1.symm
        refine V_al0n dX12_layCorner_32 ?_
        refine V_getR kk104 (by decide) fl_X12_139 (fx_104_95 hρ) dX12_layCorner_33 ?_
        refine V_il3n dX12_layCorner_36 ?_
        refine V_al0n dX12_layCorner_37 ?_
        refine V_bipush dX12_layCorner_38 rfl ?_
        refine V_iconst dX12_layCorner_40 ?_
        refine V_iconst dX12_layCorner_41 ?_
        refine V_sipush dX12_layCorner_42 rfl ?_
        refine V_callV (as := [_, _, _, _]) ml_X12_437 im_X12_boundLaw se_X12_boundLaw kk104 (by decide) (by decide) dX12_layCorner_45 rfl rfl (by decide) (by decide) (Nat.le_of_ble_eq_true rfl) (by decide) (by decide) rfl (c_boundLaw hρ hT2 hk (w := 6) (by omega) (fun j hj => ⟨n29 j hj, nb j⟩) (by unfold ri; omega) (by unfold ri; omega) (by unfold ri; omega)) ?_
        rintro r45 ρ45 f45 g45 ⟨rfl, s45_0, ev1⟩
        obtain rfl := s45_0.symm
        have hT3 : MT T f45 := fun a k ht => (ev1.1 a k (fun q => by have := scM_tx ht; rw [q.1, q.2] at this; cases this)).trans (hT2 a k ht)
        have n45 : ∀ j, j < 8 → g45 135 j = nms T k false ra sk (T 115 m) (T 113 m) (T 114 m) 0 j := fun j hj => by rw [ev1.2 135 (by omega)]; exact n29 j hj
        refine V_iast (k := m) kk145 (by decide) (by first | rfl | omega) (by omega) (by first | decide | assumption | omega) dX12_layCorner_48 ?_
        refine V_al0n dX12_layCorner_49 ?_
        refine V_getR kk104 (by decide) fl_X12_142 (fx_104_96 hρ) dX12_layCorner_50 ?_
        refine V_il3n dX12_layCorner_53 ?_
        refine V_al0n dX12_layCorner_54 ?_
        refine V_bipush dX12_layCorner_55 rfl ?_
        refine V_bipush dX12_layCorner_57 rfl ?_
        refine V_iconst dX12_layCorner_59 ?_
        refine V_sipush dX12_layCorner_60 rfl ?_
        refine V_callV (as := [_, _, _, _]) ml_X12_437 im_X12_boundLaw se_X12_boundLaw kk104 (by decide) (by decide) dX12_layCorner_63 rfl rfl (by decide) (by decide) (Nat.le_of_ble_eq_true rfl) (by decide) (by decide) rfl (c_boundLaw hρ (f := u2 f45 145 m (bl T (nms T k false ra sk (T 115 m) (T 113 m) (T 114 m) 0) 6 5 0 999)) (fun a j ht => (u2_o (fun q => by rw [q.1] at ht; simp [tx, half] at ht)).trans (hT3 a j ht)) hk (w := 7) (by omega) (fun j hj => ⟨n45 j hj, nb j⟩) (by unfold ri; omega) (by unfold ri; omega) (by unfold ri; omega)) ?_
        rintro r63 ρ63 f63 g63 ⟨rfl, s63_0, ev2⟩
        obtain rfl := s63_0.symm
        refine V_iast (k := m) kk146 (by decide) (by first | rfl | omega) (by omega) (by first | decide | assumption | omega) dX12_layCorner_66 ?_
        refine V_inc3 dX12_layCorner_67 (by decide) rfl ?_
        refine V_goto (tgt := 2) dX12_layCorner_70 rfl ?_
        have kk : KC f (u2 f63 146 m (bl T (nms T k false ra sk (T 115 m) (T 113 m) (T 114 m) 0) 7 6 0 999)) := fun a j q1 q2 q3 => by rw [u2_o (by omega), ev2.1 a j (by omega), u2_o (by omega), ev1.1 a j (by omega)]; exact kb a j (by omega)
        exact w_lco hρ hT0 hk hs hsk hr rs hkl hQ (m + 1) (by omega) _ g63 (fun a j q1 q2 q3 => (kk a j q1 q2 q3).trans (hf a j q1 q2 q3)) (fun a q1 q2 => by rw [ev2.2 a q2, ev1.2 a q2, e29 a q1]; exact hg a q1 q2) (fun j hj hb => by
          by_cases eq : j = m
          · subst eq
            exact ⟨by rw [u2_o (by omega), ev2.1 145 j (by omega), u2_s]; rfl, by rw [u2_s]; rfl⟩
          · obtain ⟨j1, j2⟩ := hJ j (by omega) hb
            exact ⟨by rw [u2_o (by omega), ev2.1 145 j (by omega), u2_o (by omega), ev1.1 145 j (by omega), kb 145 j (by omega)]; exact j1, by rw [u2_o (by omega), ev2.1 146 j (by omega), u2_o (by omega), ev1.1 146 j (by omega), kb 146 j (by omega)]; exact j2⟩)
      · refine V_goto (tgt := 67) dX12_layCorner_18 rfl ?_
        refine V_inc3 dX12_layCorner_67 (by decide) rfl ?_
        refine V_goto (tgt := 2) dX12_layCorner_70 rfl ?_
        simp only [decide_eq_false_iff_not] at b15
        exact w_lco hρ hT0 hk hs hsk hr rs hkl hQ (m + 1) (by omega) f g hf hg (fun j hj hb => by by_cases eq : j = m; (subst eq; exact absurd hb b15); exact hJ j (by omega) hb)
termination_by nMe T - m
theorem c_layCorner {T : TT} {ρ : RT} {f : IT} {g : JT} (hρ : Fx ρ) (hT : MT T f) (hk : TOK T) {sk : Int} {ra : Bool} (hs : f 104 67 = sk) (hsk : 0 ≤ sk ∧ sk ≤ 30) (hr : f 104 68 = bz ra) {so : Int} (rs : ri so) {k : Nat} (hkl : k < nLa T) :
    C_X12_layCorner [.ref 104, .int (iz so), .int (iz (k : Int))] ρ f g (fun r ρ' f' g' => r = none ∧ ρ' = ρ ∧ KC f f' ∧ KG g g' ∧ ∀ m, m < nMe T → so / 2 ^ m % 2 = 1 → f' 145 m = jmS T ra sk k m ∧ f' 146 m = wdS T ra sk k m) := by
  refine Ct.ofV (by decide) rfl (Nat.le_of_ble_eq_true rfl) ?_
  refine V_iconst dX12_layCorner_0 ?_
  refine V_is3n dX12_layCorner_1 (by decide) rfl ?_
  exact w_lco hρ hT hk hs hsk hr rs hkl (fun f' g' a1 a2 a3 => ⟨rfl, rfl, a1, a2, a3⟩) 0 (by omega) f g (fun _ _ _ _ _ => rfl) KG.rf (fun j hj => by omega)
def insN (a : Int) : Int := sumTo (fun k => a / 2 ^ k % 2) 5
theorem w_ins {Q : QT} {ρ : RT} {f : IT} {g : JT} {a : Int} (ra : ri a) (hQ : Q (some (.int (iz (insN a)))) ρ f g) (i : Nat) (hi : i ≤ 5) : V_X12_insideOf Q 4 [.int (iz a), .int (iz (sumTo (fun k => a / 2 ^ k % 2) i)), .int (iz (i : Int))] [] ρ f g := by
  refine V_il2n dX12_insideOf_4 ?_
  refine V_iconst dX12_insideOf_5 ?_
  refine V_icmp_ge (tgt := 23) dX12_insideOf_6 rfl (by first | assumption | (unfold ri at *; omega)) (by first | assumption | (unfold ri at *; omega)) (fun b6 => ?_) (fun b6 => ?_)
  · have ei : i = 5 := by omega
    subst ei
    refine V_il1n dX12_insideOf_23 ?_
    exact V_ireturn rfl hQ dX12_insideOf_24
  · refine V_il1n dX12_insideOf_9 ?_
    refine V_il0n dX12_insideOf_10 ?_
    refine V_il2n dX12_insideOf_11 ?_
    refine V_ishr dX12_insideOf_12 (iz_shr ra (by omega : i < 32)) ?_
    refine V_iconst dX12_insideOf_13 ?_
    refine V_iand dX12_insideOf_14 (iz_and1 _) ?_
    refine V_iadd dX12_insideOf_15 ?_
    refine V_is1n dX12_insideOf_16 (by decide) rfl ?_
    refine V_inc2 dX12_insideOf_17 (by decide) rfl ?_
    refine V_goto (tgt := 4) dX12_insideOf_20 rfl ?_
    exact w_ins ra hQ (i + 1) (by omega)
termination_by 5 - i
theorem c_insideOf {ρ : RT} {f : IT} {g : JT} {a : Int} (ra : ri a) : C_X12_insideOf [.int (iz a)] ρ f g (fun r ρ' f' g' => r = some (.int (iz (insN a))) ∧ ρ' = ρ ∧ f' = f ∧ g' = g) := by
  refine Ct.ofV (by decide) rfl (Nat.le_of_ble_eq_true rfl) ?_
  refine V_iconst dX12_insideOf_0 ?_
  refine V_is1n dX12_insideOf_1 (by decide) rfl ?_
  refine V_iconst dX12_insideOf_2 ?_
  refine V_is2n dX12_insideOf_3 (by decide) rfl ?_
  exact w_ins ra ⟨rfl, rfl, rfl, rfl⟩ 0 (by omega)
theorem insN_rng (a : Int) : 0 ≤ insN a ∧ insN a ≤ 5 := by
  have := sumTo_le (s := fun k => a / 2 ^ k % 2) (b := 1) 5 (fun k _ => by omega)
  unfold insN
  omega
def lsJ (J W : Nat → Int) (m : Nat) (i : Int) : Int := if i / 2 ^ m % 2 = 1 then J m * (insN i - 1) else W m
theorem lsJ_ri {J W : Nat → Int} {m : Nat} {i : Int} (h : (0 ≤ J m ∧ J m ≤ 999) ∧ (0 ≤ W m ∧ W m ≤ 999)) : -999 ≤ lsJ J W m i ∧ lsJ J W m i ≤ 3996 := by
  have hi := insN_rng i
  unfold lsJ
  split
  · rcases (show insN i = 0 ∨ insN i = 1 ∨ insN i = 2 ∨ insN i = 3 ∨ insN i = 4 ∨ insN i = 5 by omega) with h1 | h1 | h1 | h1 | h1 | h1 <;> rw [h1] <;> omega
  · omega
theorem c_lossOf {ρ : RT} {f : IT} {g : JT} (hρ : Fx ρ) {J W : Nat → Int} {m : Nat} (hm : m < 5) {i : Int} (ri_ : ri i) (hJ : f 145 m = J m) (hW : f 146 m = W m) :
    C_X12_lossOf [.ref 104, .int (iz (m : Int)), .int (iz i)] ρ f g (fun r ρ' f' g' => r = some (.int (iz (lsJ J W m i))) ∧ ρ' = ρ ∧ f' = f ∧ g' = g) := by
  refine Ct.ofV (by decide) rfl (Nat.le_of_ble_eq_true rfl) ?_
  refine V_il2n dX12_lossOf_0 ?_
  refine V_il1n dX12_lossOf_1 ?_
  refine V_callS (as := [_, _]) ml_X12_573 sm_X12_isOf dX12_lossOf_2 rfl rfl (by decide) (by decide) (Nat.le_of_ble_eq_true rfl) (by decide) (by decide) rfl (c_isOf ri_ (by omega : m < 32)) ?_
  refine pq4 ?_
  refine V_bt (tgt := 24) dX12_lossOf_5 rfl (fun b5 => ?_) (fun b5 => ?_)
  · refine V_al0n dX12_lossOf_24 ?_
    refine V_getR kk104 (by decide) fl_X12_142 (fx_104_96 hρ) dX12_lossOf_25 ?_
    refine V_il1n dX12_lossOf_28 ?_
    refine V_iald (k := m) kk146 (by decide) (by first | rfl | omega) (by omega) (by first | decide | assumption | omega) hW dX12_lossOf_29 ?_
    exact V_ireturn rfl ⟨by unfold lsJ; simp only [decide_eq_true_eq, decide_eq_false_iff_not] at b5; simp [b5], rfl, rfl, rfl⟩ dX12_lossOf_30
  · refine V_al0n dX12_lossOf_8 ?_
    refine V_getR kk104 (by decide) fl_X12_139 (fx_104_95 hρ) dX12_lossOf_9 ?_
    refine V_il1n dX12_lossOf_12 ?_
    refine V_iald (k := m) kk145 (by decide) (by first | rfl | omega) (by omega) (by first | decide | assumption | omega) hJ dX12_lossOf_13 ?_
    refine V_il2n dX12_lossOf_14 ?_
    refine V_callS (as := [_]) ml_X12_579 sm_X12_insideOf dX12_lossOf_15 rfl rfl (by decide) (by decide) (Nat.le_of_ble_eq_true rfl) (by decide) (by decide) rfl (c_insideOf ri_) ?_
    refine pq4 ?_
    refine V_iconst dX12_lossOf_18 ?_
    refine V_isub dX12_lossOf_19 ?_
    refine V_imul dX12_lossOf_20 ?_
    refine V_goto (tgt := 30) dX12_lossOf_21 rfl ?_
    exact V_ireturn rfl ⟨by unfold lsJ; simp only [decide_eq_true_eq, decide_eq_false_iff_not] at b5; simp [b5], rfl, rfl, rfl⟩ dX12_lossOf_30
def rsJ (n : Nat) (so : Int) (J W : Nat → Int) (i : Nat) : Bool := decide (∀ m, m < n → so / 2 ^ m % 2 = 1 → lsJ J W m (i : Int) ≤ lsJ J W m ((i ^^^ 2 ^ m : Nat) : Int))
theorem xor_lt {i m : Nat} (hi : i < 32) (hm : m < 5) : i ^^^ 2 ^ m < 32 := by
  have h2 : (2 : Nat) ^ m < 2 ^ 5 := Nat.pow_lt_pow_right (by omega) hm
  exact Nat.xor_lt_two_pow (n := 5) (by omega) h2
theorem w_isRest {T : TT} {Q : QT} {ρ : RT} {f : IT} {g : JT} (hρ : Fx ρ) (hT : MT T f) (hk : TOK T) {so : Int} (rs : ri so) {J W : Nat → Int} (hJ : ∀ m, m < nMe T → so / 2 ^ m % 2 = 1 → f 145 m = J m ∧ f 146 m = W m ∧ (0 ≤ J m ∧ J m ≤ 999) ∧ (0 ≤ W m ∧ W m ≤ 999)) {i : Nat} (hi : i < 32)
    (hQ : Q (some (.int (iz (bz (rsJ (nMe T) so J W i))))) ρ f g) (m : Nat) (hm : m ≤ nMe T) (hb : ∀ j, j < m → so / 2 ^ j % 2 = 1 → lsJ J W j (i : Int) ≤ lsJ J W j ((i ^^^ 2 ^ j : Nat) : Int)) :
    V_X12_isRest Q 2 [.ref 104, .int (iz so), .int (iz (i : Int)), .int (iz (m : Int))] [] ρ f g := by
  have h5 := hk.me
  by_cases e : m = nMe T
  · subst e
    have : rsJ (nMe T) so J W i = true := by unfold rsJ; simp only [decide_eq_true_eq]; exact hb
    rw [this] at hQ
    refine V_il3n dX12_isRest_2 ?_
    refine V_al0n dX12_isRest_3 ?_
    refine V_getI kk104 (by decide) fl_X12_253 ((hT 104 13 rfl).trans h5.1) dX12_isRest_4 ?_
    refine V_icmp_ge (tgt := 45) dX12_isRest_7 rfl (by first | assumption | (unfold ri at *; omega)) (by first | assumption | (unfold ri at *; omega)) (fun b7 => ?_) (fun b7 => ?_)
    · refine V_iconst dX12_isRest_45 ?_
      exact V_zreturn rfl (by first | exact Or.inl rfl | exact Or.inr rfl | (unfold bz; split <;> simp)) hQ dX12_isRest_46
    · exfalso; omega
  · have hx := xor_lt hi (m := m) (by omega)
    have h2 : (2 : Nat) ^ m < 2 ^ 5 := Nat.pow_lt_pow_right (by omega) (by omega)
    refine V_il3n dX12_isRest_2 ?_
    refine V_al0n dX12_isRest_3 ?_
    refine V_getI kk104 (by decide) fl_X12_253 ((hT 104 13 rfl).trans h5.1) dX12_isRest_4 ?_
    refine V_icmp_ge (tgt := 45) dX12_isRest_7 rfl (by first | assumption | (unfold ri at *; omega)) (by first | assumption | (unfold ri at *; omega)) (fun b7 => ?_) (fun b7 => ?_)
    · exfalso; omega
    · refine V_il1n dX12_isRest_10 ?_
      refine V_il3n dX12_isRest_11 ?_
      refine V_callS (as := [_, _]) ml_X12_573 sm_X12_isOf dX12_isRest_12 rfl rfl (by decide) (by decide) (Nat.le_of_ble_eq_true rfl) (by decide) (by decide) rfl (c_isOf rs (by omega : m < 32)) ?_
      refine pq4 ?_
      refine V_bt (tgt := 39) dX12_isRest_15 rfl (fun b15 => ?_) (fun b15 => ?_)
      · refine V_inc3 dX12_isRest_39 (by decide) rfl ?_
        refine V_goto (tgt := 2) dX12_isRest_42 rfl ?_
        simp only [decide_eq_false_iff_not] at b15
        exact w_isRest hρ hT hk rs hJ hi hQ (m + 1) (by omega) (fun j hj hh => by by_cases eq : j = m; (subst eq; exact absurd hh b15); exact hb j (by omega) hh)
      · simp only [decide_eq_true_eq] at b15
        obtain ⟨j1, j2, j3, j4⟩ := hJ m (by omega) b15
        have l1 := lsJ_ri (J := J) (W := W) (m := m) (i := (i : Int)) ⟨j3, j4⟩
        have l2 := lsJ_ri (J := J) (W := W) (m := m) (i := ((i ^^^ 2 ^ m : Nat) : Int)) ⟨j3, j4⟩
        refine V_al0n dX12_isRest_18 ?_
        refine V_il3n dX12_isRest_19 ?_
        refine V_il2n dX12_isRest_20 ?_
        refine V_iconst dX12_isRest_21 ?_
        refine V_il3n dX12_isRest_22 ?_
        refine V_ishl dX12_isRest_23 (iz_shlE (b := m) (v := ((2 ^ m : Nat) : Int)) rfl (by omega) (by simp)) ?_
        refine V_ixor dX12_isRest_24 ((iz_xor _ _).trans (by rw [U_nat (by omega), U_nat (by omega)])) ?_
        refine V_callV (as := [_, _]) ml_X12_582 im_X12_lossOf se_X12_lossOf kk104 (by decide) (by decide) dX12_isRest_25 rfl rfl (by decide) (by decide) (Nat.le_of_ble_eq_true rfl) (by decide) (by decide) rfl (c_lossOf hρ (m := m) (by omega) (by unfold ri; omega) j1 j2) ?_
        refine pq4 ?_
        refine V_al0n dX12_isRest_28 ?_
        refine V_il3n dX12_isRest_29 ?_
        refine V_il2n dX12_isRest_30 ?_
        refine V_callV (as := [_, _]) ml_X12_582 im_X12_lossOf se_X12_lossOf kk104 (by decide) (by decide) dX12_isRest_31 rfl rfl (by decide) (by decide) (Nat.le_of_ble_eq_true rfl) (by decide) (by decide) rfl (c_lossOf hρ (m := m) (by omega) (by unfold ri; omega) j1 j2) ?_
        refine pq4 ?_
        refine V_icmp_ge (tgt := 39) dX12_isRest_34 rfl (by first | assumption | (unfold ri at *; omega)) (by first | assumption | (unfold ri at *; omega)) (fun b34 => ?_) (fun b34 => ?_)
        · refine V_inc3 dX12_isRest_39 (by decide) rfl ?_
          refine V_goto (tgt := 2) dX12_isRest_42 rfl ?_
          exact w_isRest hρ hT hk rs hJ hi hQ (m + 1) (by omega) (fun j hj hh => by by_cases eq : j = m; (subst eq; omega); exact hb j (by omega) hh)
        · refine V_iconst dX12_isRest_37 ?_
          exact V_zreturn rfl (by first | exact Or.inl rfl | exact Or.inr rfl | (unfold bz; split <;> simp)) (by have hf : rsJ (nMe T) so J W i = false := (by unfold rsJ; simp only [decide_eq_false_iff_not]; intro hall; have := hall m (by omega) b15; omega); rw [hf] at hQ; exact hQ) dX12_isRest_38
termination_by nMe T - m
theorem c_isRest {T : TT} {ρ : RT} {f : IT} {g : JT} (hρ : Fx ρ) (hT : MT T f) (hk : TOK T) {so : Int} (rs : ri so) {J W : Nat → Int} (hJ : ∀ m, m < nMe T → so / 2 ^ m % 2 = 1 → f 145 m = J m ∧ f 146 m = W m ∧ (0 ≤ J m ∧ J m ≤ 999) ∧ (0 ≤ W m ∧ W m ≤ 999)) {i : Nat} (hi : i < 32) :
    C_X12_isRest [.ref 104, .int (iz so), .int (iz (i : Int))] ρ f g (fun r ρ' f' g' => r = some (.int (iz (bz (rsJ (nMe T) so J W i)))) ∧ ρ' = ρ ∧ f' = f ∧ g' = g) := by
  refine Ct.ofV (by decide) rfl (Nat.le_of_ble_eq_true rfl) ?_
  refine V_iconst dX12_isRest_0 ?_
  refine V_is3n dX12_isRest_1 (by decide) rfl ?_
  exact w_isRest hρ hT hk rs hJ hi ⟨rfl, rfl, rfl, rfl⟩ 0 (by omega) (fun j hj => by omega)

