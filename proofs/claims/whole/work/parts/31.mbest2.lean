def aQuick (T : TT) (ra : Bool) (sk m h p : Int) : Int := if (okM T m && okH T h && zin p 1 9 && decide (nLa T ≠ 0)) = true then (if (bst T ra sk m.toNat h.toNat 0).1 = 99999 ∨ (bst T ra sk m.toNat h.toNat p).1 = 99999 then -2 else (bst T ra sk m.toNat h.toNat p).1 - (bst T ra sk m.toNat h.toNat 0).1) else -1
theorem c_mquick {T : TT} {ρ : RT} {f : IT} {g : JT} (hρ : Fx ρ) (hT : MT T f) (hk : TOK T) {sk : Int} {ra : Bool} (hs : f 104 67 = sk) (hsk : 0 ≤ sk ∧ sk ≤ 30) (hr : f 104 68 = bz ra) {m h p : Int} (rm : ri m) (rh : ri h) (rp : ri p) :
    C_X12_quick [.ref 104, .int (iz m), .int (iz h), .int (iz p)] ρ f g (fun r ρ' f' g' => r = some (.int (iz (aQuick T ra sk m h p))) ∧ ρ' = ρ ∧ KM f f' ∧ KM g g') := by
  have h6 := hk.la
  have h5 := hk.me
  have h3 := hk.ho
  have hT1 : MT T (u2 f 104 2 0) := hT.km (KM.u2 rfl KM.rf)
  refine Ct.ofV (by decide) rfl (Nat.le_of_ble_eq_true rfl) ?_
  refine V_al0n dX12_quick_0 ?_
  refine V_iconst dX12_quick_1 ?_
  refine V_putI kk104 (by decide) fl_X12_154 rfl dX12_quick_2 ?_
  refine V_al0n dX12_quick_5 ?_
  refine V_il1n dX12_quick_6 ?_
  refine V_callV (as := [_]) ml_X12_462 im_X12_isMan se_X12_isMan kk104 (by decide) (by decide) dX12_quick_7 rfl rfl (by decide) (by decide) (Nat.le_of_ble_eq_true rfl) (by decide) (by decide) rfl (c_isMan rm ((hT1 104 13 rfl).trans h5.1) (by unfold ri; omega)) ?_
  refine pq4 ?_
  refine V_bt (tgt := 38) dX12_quick_10 rfl (fun b10 => ?_) (fun b10 => ?_)
  · refine V_iconst dX12_quick_38 ?_
    exact V_ireturn rfl ⟨by unfold aQuick okM okH; first | (simp only [*]; simp; done) | (rw [if_neg]; simp only [Bool.and_eq_true, decide_eq_true_eq]; omega), rfl, KM.u2 rfl KM.rf, KM.rf⟩ dX12_quick_39
  · refine V_al0n dX12_quick_13 ?_
    refine V_il2n dX12_quick_14 ?_
    refine V_callV (as := [_]) ml_X12_514 im_X12_isHold se_X12_isHold kk104 (by decide) (by decide) dX12_quick_15 rfl rfl (by decide) (by decide) (Nat.le_of_ble_eq_true rfl) (by decide) (by decide) rfl (c_isHold rh ((hT1 104 14 rfl).trans h3.1) (by unfold ri; omega)) ?_
    refine pq4 ?_
    refine V_bt (tgt := 38) dX12_quick_18 rfl (fun b18 => ?_) (fun b18 => ?_)
    · refine V_iconst dX12_quick_38 ?_
      exact V_ireturn rfl ⟨by unfold aQuick okM okH; first | (simp only [*]; simp; done) | (rw [if_neg]; simp only [Bool.and_eq_true, decide_eq_true_eq]; omega), rfl, KM.u2 rfl KM.rf, KM.rf⟩ dX12_quick_39
    · refine V_il3n dX12_quick_21 ?_
      refine V_iconst dX12_quick_22 ?_
      refine V_bipush dX12_quick_23 rfl ?_
      refine V_callS (as := [_, _, _]) ml_X12_199 sm_X12_isIn dX12_quick_25 rfl rfl (by decide) (by decide) (Nat.le_of_ble_eq_true rfl) (by decide) (by decide) rfl (c_isIn rp (by unfold ri; omega) (by unfold ri; omega)) ?_
      refine pq4 ?_
      refine V_bt (tgt := 38) dX12_quick_28 rfl (fun b28 => ?_) (fun b28 => ?_)
      · refine V_iconst dX12_quick_38 ?_
        exact V_ireturn rfl ⟨by unfold aQuick okM okH; first | (simp only [*]; simp; done) | (rw [if_neg]; simp only [Bool.and_eq_true, decide_eq_true_eq]; omega), rfl, KM.u2 rfl KM.rf, KM.rf⟩ dX12_quick_39
      · refine V_al0n dX12_quick_31 ?_
        refine V_getI kk104 (by decide) fl_X12_250 ((hT1 104 12 rfl).trans h6.1) dX12_quick_32 ?_
        refine V_if_ne (tgt := 40) dX12_quick_35 rfl (by first | assumption | (unfold ri at *; omega)) (fun b35 => ?_) (fun b35 => ?_)
        · have c1 := b10
          have c2 := b18
          have c3 := b28
          unfold zin at c3
          simp only [decide_eq_true_eq] at c1 c2 c3
          obtain ⟨mN, rfl⟩ : ∃ n : Nat, m = n := ⟨m.toNat, by omega⟩
          obtain ⟨hN, rfl⟩ : ∃ n : Nat, h = n := ⟨h.toNat, by omega⟩
          have br := bst_rng hk (ra := ra) hsk (m := mN) (h := hN) (by omega) (by omega) 0
          have br2 := bst_rng hk (ra := ra) hsk (m := mN) (h := hN) (by omega) (by omega) p
          have ea : aQuick T ra sk (mN : Int) (hN : Int) p = (if (bst T ra sk mN hN 0).1 = 99999 ∨ (bst T ra sk mN hN p).1 = 99999 then -2 else (bst T ra sk mN hN p).1 - (bst T ra sk mN hN 0).1) := by unfold aQuick okM okH; simp only [Int.toNat_natCast, b10, b18, b28, decide_eq_true (show nLa T ≠ 0 by omega)]; simp
          refine V_al0n dX12_quick_40 ?_
          refine V_il1n dX12_quick_41 ?_
          refine V_il2n dX12_quick_42 ?_
          refine V_iconst dX12_quick_43 ?_
          refine V_callV (as := [_, _, _]) ml_X12_534 im_X12_bestOf se_X12_bestOf kk104 (by decide) (by decide) dX12_quick_44 rfl rfl (by decide) (by decide) (Nat.le_of_ble_eq_true rfl) (by decide) (by decide) rfl (c_bestOf hρ hT1 hk (ra := ra) (u2_n (by omega) hs) hsk (u2_n (by omega) hr) (m := mN) (h := hN) (by omega) (by omega) (q := 0) (by omega)) ?_
          rintro r44 ρ44 f44 g44 ⟨rfl, s44_0, km, kg, hM, hB⟩
          obtain rfl := s44_0.symm
          refine V_is4 dX12_quick_47 (by decide) rfl ?_
          refine V_al0n dX12_quick_49 ?_
          refine V_il1n dX12_quick_50 ?_
          refine V_il2n dX12_quick_51 ?_
          refine V_il3n dX12_quick_52 ?_
          refine V_callV (as := [_, _, _]) ml_X12_534 im_X12_bestOf se_X12_bestOf kk104 (by decide) (by decide) dX12_quick_53 rfl rfl (by decide) (by decide) (Nat.le_of_ble_eq_true rfl) (by decide) (by decide) rfl (c_bestOf hρ (hT1.km km) hk (ra := ra) ((km 104 67 rfl).trans (u2_n (by omega) hs)) hsk ((km 104 68 rfl).trans (u2_n (by omega) hr)) (m := mN) (h := hN) (by omega) (by omega) (q := p) (by omega)) ?_
          rintro r53 ρ53 f53 g53 ⟨rfl, s53_0, km2, kg2, hM2, hB2⟩
          obtain rfl := s53_0.symm
          refine V_is5 dX12_quick_56 (by decide) rfl ?_
          refine V_il4 dX12_quick_58 ?_
          refine V_ldc (a := 99999) kc_X12_192 rfl dX12_quick_60 ?_
          refine V_icmp_eq (tgt := 72) dX12_quick_62 rfl (by first | assumption | (unfold ri at *; omega)) (by first | assumption | (unfold ri at *; omega)) (fun b62 => ?_) (fun b62 => ?_)
          · refine V_bipush dX12_quick_72 rfl ?_
            refine V_goto (tgt := 82) dX12_quick_74 rfl ?_
            exact V_ireturn rfl ⟨by rw [ea]; first | (rw [if_pos (by omega)]; done) | (rw [if_neg (by omega)]; done), rfl, (KM.u2 (x := 0) rfl KM.rf).tr (km.tr km2), kg.tr kg2⟩ dX12_quick_82
          · refine V_il5 dX12_quick_65 ?_
            refine V_ldc (a := 99999) kc_X12_192 rfl dX12_quick_67 ?_
            refine V_icmp_ne (tgt := 77) dX12_quick_69 rfl (by first | assumption | (unfold ri at *; omega)) (by first | assumption | (unfold ri at *; omega)) (fun b69 => ?_) (fun b69 => ?_)
            · refine V_il5 dX12_quick_77 ?_
              refine V_il4 dX12_quick_79 ?_
              refine V_isub dX12_quick_81 ?_
              exact V_ireturn rfl ⟨by rw [ea]; first | (rw [if_pos (by omega)]; done) | (rw [if_neg (by omega)]; done), rfl, (KM.u2 (x := 0) rfl KM.rf).tr (km.tr km2), kg.tr kg2⟩ dX12_quick_82
            · refine V_bipush dX12_quick_72 rfl ?_
              refine V_goto (tgt := 82) dX12_quick_74 rfl ?_
              exact V_ireturn rfl ⟨by rw [ea]; first | (rw [if_pos (by omega)]; done) | (rw [if_neg (by omega)]; done), rfl, (KM.u2 (x := 0) rfl KM.rf).tr (km.tr km2), kg.tr kg2⟩ dX12_quick_82
        · refine V_iconst dX12_quick_38 ?_
          exact V_ireturn rfl ⟨by unfold aQuick okM okH; first | (simp only [*]; simp; done) | (rw [if_neg]; simp only [Bool.and_eq_true, decide_eq_true_eq]; omega), rfl, KM.u2 rfl KM.rf, KM.rf⟩ dX12_quick_39
/-- the holds from k on: the best, its tenths -/
def hdR (T : TT) (ra : Bool) (sk : Int) (m : Nat) : Nat → Nat → Int × Int → Int × Int
  | 0, _, x => x
  | n + 1, k, x => hdR T ra sk m n (k + 1) (if (bst T ra sk m k 0).1 < x.2 then ((k : Int), (bst T ra sk m k 0).1) else x)
theorem w_held {T : TT} {Q : QT} {ρ : RT} {f0 : IT} {g0 : JT} (hρ : Fx ρ) (hk : TOK T) {sk : Int} {ra : Bool} (hs : f0 104 67 = sk) (hsk : 0 ≤ sk ∧ sk ≤ 30) (hr : f0 104 68 = bz ra) {m : Nat} (hm : m < nMe T) {wt : Int} (hwt : ri wt) (hT0 : MT T f0) {R : Int × Int}
    (hQ : ∀ (f : IT) (g : JT), KM f0 f → KM g0 g → Q (some (.int (iz (if R.1 < 0 then -2 else if wt = 0 then R.1 else R.2)))) ρ f g)
    (k : Nat) (hkl : k ≤ nHo T) (x : Int × Int) (hx : -1 ≤ x.1 ∧ x.1 ≤ 10) (hx2 : 0 ≤ x.2 ∧ x.2 ≤ 99999) (f : IT) (g : JT) (hf : KM f0 f) (hg : KM g0 g) (hR : hdR T ra sk m (nHo T - k) k x = R) :
    V_X12_held Q 40 [.ref 104, .int (iz (m : Int)), .int (iz wt), .int (iz x.1), .int (iz x.2), .int (iz (k : Int)), .null] [] ρ f g := by
  have h3 := hk.ho
  have hT := hT0.km hf
  have fl : f 104 14 = ((nHo T : Nat) : Int) := (hT 104 14 rfl).trans h3.1
  refine V_il5 dX12_held_40 ?_
  refine V_al0n dX12_held_42 ?_
  refine V_getI kk104 (by decide) fl_X12_256 fl dX12_held_43 ?_
  refine V_icmp_ge (tgt := 82) dX12_held_46 rfl (by first | assumption | (unfold ri at *; omega)) (by first | assumption | (unfold ri at *; omega)) (fun b46 => ?_) (fun b46 => ?_)
  · rw [show nHo T - k = 0 by omega] at hR
    simp only [hdR] at hR
    subst hR
    have hq := hQ f g hf hg
    refine V_il3n dX12_held_82 ?_
    refine V_if_ge (tgt := 91) dX12_held_83 rfl (by first | assumption | (unfold ri at *; omega)) (fun b83 => ?_) (fun b83 => ?_)
    · refine V_il2n dX12_held_91 ?_
      refine V_if_ne (tgt := 99) dX12_held_92 rfl (by first | assumption | (unfold ri at *; omega)) (fun b92 => ?_) (fun b92 => ?_)
      · refine V_il4 dX12_held_99 ?_
        exact V_ireturn rfl (by first | (rw [if_pos (by omega)] at hq; exact hq) | (rw [if_neg (by omega), if_pos (by omega)] at hq; exact hq) | (rw [if_neg (by omega), if_neg (by omega)] at hq; exact hq)) dX12_held_101
      · refine V_il3n dX12_held_95 ?_
        refine V_goto (tgt := 101) dX12_held_96 rfl ?_
        exact V_ireturn rfl (by first | (rw [if_pos (by omega)] at hq; exact hq) | (rw [if_neg (by omega), if_pos (by omega)] at hq; exact hq) | (rw [if_neg (by omega), if_neg (by omega)] at hq; exact hq)) dX12_held_101
    · refine V_bipush dX12_held_86 rfl ?_
      refine V_goto (tgt := 101) dX12_held_88 rfl ?_
      exact V_ireturn rfl (by first | (rw [if_pos (by omega)] at hq; exact hq) | (rw [if_neg (by omega), if_pos (by omega)] at hq; exact hq) | (rw [if_neg (by omega), if_neg (by omega)] at hq; exact hq)) dX12_held_101
  · rw [show nHo T - k = (nHo T - (k + 1)) + 1 by omega, hdR] at hR
    have br := bst_rng hk (ra := ra) hsk hm (h := k) (by omega) 0
    refine V_al0n dX12_held_49 ?_
    refine V_il1n dX12_held_50 ?_
    refine V_il5 dX12_held_51 ?_
    refine V_iconst dX12_held_53 ?_
    refine V_callV (as := [_, _, _]) ml_X12_534 im_X12_bestOf se_X12_bestOf kk104 (by decide) (by decide) dX12_held_54 rfl rfl (by decide) (by decide) (Nat.le_of_ble_eq_true rfl) (by decide) (by decide) rfl (c_bestOf hρ hT hk (ra := ra) ((hf 104 67 rfl).trans hs) hsk ((hf 104 68 rfl).trans hr) hm (h := k) (by omega) (q := 0) (by omega)) ?_
    rintro r54 ρ54 f54 g54 ⟨rfl, s54_0, km, kg, hM, hB⟩
    obtain rfl := s54_0.symm
    refine V_is6 dX12_held_57 (by decide) rfl ?_
    refine V_il6 dX12_held_59 ?_
    refine V_il4 dX12_held_61 ?_
    refine V_icmp_lt (tgt := 69) dX12_held_63 rfl (by first | assumption | (unfold ri at *; omega)) (by first | assumption | (unfold ri at *; omega)) (fun b63 => ?_) (fun b63 => ?_)
    · rw [if_pos b63] at hR
      refine V_il6 dX12_held_69 ?_
      refine V_is4 dX12_held_71 (by decide) rfl ?_
      refine V_il5 dX12_held_73 ?_
      refine V_is3n dX12_held_75 (by decide) rfl ?_
      refine V_inc5 dX12_held_76 (by decide) rfl ?_
      refine V_goto (tgt := 40) dX12_held_79 rfl ?_
      exact V_weak (by repeat (first | exact wk_n | refine wk_c (Or.inr rfl) ?_ | refine wk_c (Or.inl rfl) ?_)) (w_held hρ hk hs hsk hr hm hwt hT0 hQ (k + 1) (by omega) ((k : Int), (bst T ra sk m k 0).1) (by simp only; omega) (by simp only; omega) _ _ (hf.tr km) (hg.tr kg) hR)
    · rw [if_neg b63] at hR
      refine V_goto (tgt := 76) dX12_held_66 rfl ?_
      refine V_inc5 dX12_held_76 (by decide) rfl ?_
      refine V_goto (tgt := 40) dX12_held_79 rfl ?_
      exact V_weak (by repeat (first | exact wk_n | refine wk_c (Or.inr rfl) ?_ | refine wk_c (Or.inl rfl) ?_)) (w_held hρ hk hs hsk hr hm hwt hT0 hQ (k + 1) (by omega) x hx hx2 _ _ (hf.tr km) (hg.tr kg) hR)
termination_by nHo T - k
def aHeld (T : TT) (ra : Bool) (sk m w : Int) : Int := if (okM T m && decide (nHo T ≠ 0) && zin w 0 1) = true then (if (hdR T ra sk m.toNat (nHo T) 0 (-1, 99999)).1 < 0 then -2 else if w = 0 then (hdR T ra sk m.toNat (nHo T) 0 (-1, 99999)).1 else (hdR T ra sk m.toNat (nHo T) 0 (-1, 99999)).2) else -1
theorem c_mheld {T : TT} {ρ : RT} {f : IT} {g : JT} (hρ : Fx ρ) (hT : MT T f) (hk : TOK T) {sk : Int} {ra : Bool} (hs : f 104 67 = sk) (hsk : 0 ≤ sk ∧ sk ≤ 30) (hr : f 104 68 = bz ra) {m w : Int} (rm : ri m) (rw_ : ri w) :
    C_X12_held [.ref 104, .int (iz m), .int (iz w)] ρ f g (fun r ρ' f' g' => r = some (.int (iz (aHeld T ra sk m w))) ∧ ρ' = ρ ∧ KM f f' ∧ KM g g') := by
  have h5 := hk.me
  have h3 := hk.ho
  have hT1 : MT T (u2 f 104 2 0) := hT.km (KM.u2 rfl KM.rf)
  refine Ct.ofV (by decide) rfl (Nat.le_of_ble_eq_true rfl) ?_
  refine V_al0n dX12_held_0 ?_
  refine V_iconst dX12_held_1 ?_
  refine V_putI kk104 (by decide) fl_X12_154 rfl dX12_held_2 ?_
  refine V_al0n dX12_held_5 ?_
  refine V_il1n dX12_held_6 ?_
  refine V_callV (as := [_]) ml_X12_462 im_X12_isMan se_X12_isMan kk104 (by decide) (by decide) dX12_held_7 rfl rfl (by decide) (by decide) (Nat.le_of_ble_eq_true rfl) (by decide) (by decide) rfl (c_isMan rm ((hT1 104 13 rfl).trans h5.1) (by unfold ri; omega)) ?_
  refine pq4 ?_
  refine V_bt (tgt := 29) dX12_held_10 rfl (fun b10 => ?_) (fun b10 => ?_)
  · refine V_iconst dX12_held_29 ?_
    exact V_ireturn rfl ⟨by unfold aHeld okM; first | (simp only [*]; simp; done) | (rw [if_neg]; simp only [Bool.and_eq_true, decide_eq_true_eq]; omega), rfl, KM.u2 rfl KM.rf, KM.rf⟩ dX12_held_30
  · refine V_al0n dX12_held_13 ?_
    refine V_getI kk104 (by decide) fl_X12_256 ((hT1 104 14 rfl).trans h3.1) dX12_held_14 ?_
    refine V_if_eq (tgt := 29) dX12_held_17 rfl (by first | assumption | (unfold ri at *; omega)) (fun b17 => ?_) (fun b17 => ?_)
    · refine V_iconst dX12_held_29 ?_
      exact V_ireturn rfl ⟨by unfold aHeld okM; first | (simp only [*]; simp; done) | (rw [if_neg]; simp only [Bool.and_eq_true, decide_eq_true_eq]; omega), rfl, KM.u2 rfl KM.rf, KM.rf⟩ dX12_held_30
    · refine V_il2n dX12_held_20 ?_
      refine V_iconst dX12_held_21 ?_
      refine V_iconst dX12_held_22 ?_
      refine V_callS (as := [_, _, _]) ml_X12_199 sm_X12_isIn dX12_held_23 rfl rfl (by decide) (by decide) (Nat.le_of_ble_eq_true rfl) (by decide) (by decide) rfl (c_isIn rw_ (by unfold ri; omega) (by unfold ri; omega)) ?_
      refine pq4 ?_
      refine V_bf (tgt := 31) dX12_held_26 rfl (fun b26 => ?_) (fun b26 => ?_)
      · have c1 := b10
        simp only [decide_eq_true_eq] at c1
        obtain ⟨mN, rfl⟩ : ∃ n : Nat, m = n := ⟨m.toNat, by omega⟩
        have ea : aHeld T ra sk (mN : Int) w = (if (hdR T ra sk mN (nHo T) 0 (-1, 99999)).1 < 0 then -2 else if w = 0 then (hdR T ra sk mN (nHo T) 0 (-1, 99999)).1 else (hdR T ra sk mN (nHo T) 0 (-1, 99999)).2) := by unfold aHeld okM; simp only [Int.toNat_natCast, b10, b26, decide_eq_true (show nHo T ≠ 0 by omega)]; simp
        refine V_iconst dX12_held_31 ?_
        refine V_is3n dX12_held_32 (by decide) rfl ?_
        refine V_ldc (a := 99999) kc_X12_192 rfl dX12_held_33 ?_
        refine V_is4 dX12_held_35 (by decide) rfl ?_
        refine V_iconst dX12_held_37 ?_
        refine V_is5 dX12_held_38 (by decide) rfl ?_
        exact w_held hρ hk (f0 := u2 f 104 2 0) (g0 := g) (ra := ra) (u2_n (by omega) hs) hsk (u2_n (by omega) hr) (m := mN) (by omega) rw_ hT1 (R := hdR T ra sk mN (nHo T) 0 (-1, 99999)) (fun f' g' a1 a2 => ⟨by rw [ea], rfl, (KM.u2 (x := 0) rfl KM.rf).tr a1, a2⟩) 0 (by omega) (-1, 99999) (by simp) (by simp) _ _ KM.rf KM.rf rfl
      · refine V_iconst dX12_held_29 ?_
        exact V_ireturn rfl ⟨by unfold aHeld okM; first | (simp only [*]; simp; done) | (rw [if_neg]; simp only [Bool.and_eq_true, decide_eq_true_eq]; omega), rfl, KM.u2 rfl KM.rf, KM.rf⟩ dX12_held_30
/-- the least tenths of a man under another context -/
def bsc (T : TT) (c : CC) (m h : Nat) : Int := (vst T c (T 117 h) 0 (nLa T) 0 (41 * (T 113 m).toNat + (T 114 m).toNat)).1
theorem bsc_rng {T : TT} (hk : TOK T) {c : CC} (hc : CR c) {m h : Nat} (hm : m < nMe T) (hh : h < nHo T) : 0 ≤ bsc T c m h ∧ (bsc T c m h ≤ 11880 ∨ bsc T c m h = 99999) := by
  have := hk.man hm
  have h6 := hk.la
  have := vst_rng hk hc hh (q := 0) (nLa T) 0 (41 * (T 113 m).toNat + (T 114 m).toNat) (by omega) (by omega)
  unfold bsc
  omega
def aFlat (T : TT) (ra : Bool) (sk m h : Int) : Int := if (okM T m && okH T h) = true then (if bsc T (true, ra, sk, T 115 m.toNat, T 113 m.toNat) m.toNat h.toNat = 99999 then -2 else bsc T (true, ra, sk, T 115 m.toNat, T 113 m.toNat) m.toNat h.toNat) else -1
theorem c_mflat {T : TT} {ρ : RT} {f : IT} {g : JT} (hρ : Fx ρ) (hT : MT T f) (hk : TOK T) {sk : Int} {ra : Bool} (hs : f 104 67 = sk) (hsk : 0 ≤ sk ∧ sk ≤ 30) (hr : f 104 68 = bz ra) {m h : Int} (rm : ri m) (rh : ri h) :
    C_X12_flat [.ref 104, .int (iz m), .int (iz h)] ρ f g (fun r ρ' f' g' => r = some (.int (iz (aFlat T ra sk m h))) ∧ ρ' = ρ ∧ KM f f' ∧ KM g g') := by
  have h5 := hk.me
  have h3 := hk.ho
  have hT1 : MT T (u2 f 104 2 0) := hT.km (KM.u2 rfl KM.rf)
  refine Ct.ofV (by decide) rfl (Nat.le_of_ble_eq_true rfl) ?_
  refine V_al0n dX12_flat_0 ?_
  refine V_iconst dX12_flat_1 ?_
  refine V_putI kk104 (by decide) fl_X12_154 rfl dX12_flat_2 ?_
  refine V_al0n dX12_flat_5 ?_
  refine V_il1n dX12_flat_6 ?_
  refine V_callV (as := [_]) ml_X12_462 im_X12_isMan se_X12_isMan kk104 (by decide) (by decide) dX12_flat_7 rfl rfl (by decide) (by decide) (Nat.le_of_ble_eq_true rfl) (by decide) (by decide) rfl (c_isMan rm ((hT1 104 13 rfl).trans h5.1) (by unfold ri; omega)) ?_
  refine pq4 ?_
  refine V_bt (tgt := 21) dX12_flat_10 rfl (fun b10 => ?_) (fun b10 => ?_)
  · refine V_iconst dX12_flat_21 ?_
    exact V_ireturn rfl ⟨by unfold aFlat okM okH; simp only [*]; simp, rfl, KM.u2 rfl KM.rf, KM.rf⟩ dX12_flat_22
  · refine V_al0n dX12_flat_13 ?_
    refine V_il2n dX12_flat_14 ?_
    refine V_callV (as := [_]) ml_X12_514 im_X12_isHold se_X12_isHold kk104 (by decide) (by decide) dX12_flat_15 rfl rfl (by decide) (by decide) (Nat.le_of_ble_eq_true rfl) (by decide) (by decide) rfl (c_isHold rh ((hT1 104 14 rfl).trans h3.1) (by unfold ri; omega)) ?_
    refine pq4 ?_
    refine V_bf (tgt := 23) dX12_flat_18 rfl (fun b18 => ?_) (fun b18 => ?_)
    · have c1 := b10
      have c2 := b18
      simp only [decide_eq_true_eq] at c1 c2
      obtain ⟨mN, rfl⟩ : ∃ n : Nat, m = n := ⟨m.toNat, by omega⟩
      obtain ⟨hN, rfl⟩ : ∃ n : Nat, h = n := ⟨h.toNat, by omega⟩
      obtain ⟨k1, k2, k3⟩ := c0_ok hk (m := mN) (by omega) (ra := ra) hsk
      have hma := hk.man (k := mN) (by omega)
      have hcr : CR (true, ra, sk, T 115 mN, T 113 mN) := k1
      have br := bsc_rng hk hcr (m := mN) (h := hN) (by omega) (by omega)
      have ea : aFlat T ra sk (mN : Int) (hN : Int) = (if bsc T (true, ra, sk, T 115 mN, T 113 mN) mN hN = 99999 then -2 else bsc T (true, ra, sk, T 115 mN, T 113 mN) mN hN) := by unfold aFlat okM okH; simp only [Int.toNat_natCast, b10, b18]; simp
      refine V_al0n dX12_flat_23 ?_
      refine V_il1n dX12_flat_24 ?_
      refine V_callV (as := [_]) ml_X12_467 im_X12_begins se_X12_begins kk104 (by decide) (by decide) dX12_flat_25 rfl rfl (by decide) (by decide) (Nat.le_of_ble_eq_true rfl) (by decide) (by decide) rfl (c_begins1 hρ hT1 hk (m := mN) (by omega) (ra := ra) (u2_n (by omega) hs) (u2_n (by omega) hr)) ?_
      rintro r25 ρ25 f25 g25 ⟨rfl, s25_0, hM, km, hT2, kb, s25_1⟩
      obtain rfl := s25_0.symm
      obtain rfl := s25_1.symm
      refine V_al0n dX12_flat_28 ?_
      refine V_iconst dX12_flat_29 ?_
      refine V_putZ kk104 (by decide) fl_X12_405 rfl (by first | exact Or.inl rfl | exact Or.inr rfl | (unfold bz; split <;> simp)) dX12_flat_30 ?_
      obtain ⟨m1, m2, m3, m4, m5, m6, m7, m8, m9⟩ := hM
      have kf : KM f25 (u2 f25 104 72 1) := KM.u2 rfl KM.rf
      refine V_al0n dX12_flat_33 ?_
      refine V_il2n dX12_flat_34 ?_
      refine V_iconst dX12_flat_35 ?_
      refine V_callV (as := [_, _]) ml_X12_531 im_X12_bestFrom se_X12_bestFrom kk104 (by decide) (by decide) dX12_flat_36 rfl rfl (by decide) (by decide) (Nat.le_of_ble_eq_true rfl) (by decide) (by decide) rfl (c_bestFrom hρ (hT2.km kf) hk (h := hN) (by omega) hcr (q := 0) ⟨u2_s, u2_n (by omega) m2, u2_n (by omega) m3, u2_n (by omega) m4, u2_n (by omega) m5⟩ (by omega) (w := (T 113 mN).toNat) (l := (T 114 mN).toNat) (u2_n (by omega) (m7.trans (by show T 113 mN = _; omega))) (by omega) (u2_n (by omega) (m8.trans (by show T 114 mN = _; omega))) (by omega)) ?_
      rintro r36 ρ36 f36 g36 ⟨rfl, s36_0, kb2, kg, hB⟩
      obtain rfl := s36_0.symm
      refine V_callS (as := [_]) ml_X12_537 sm_X12_told dX12_flat_39 rfl rfl (by decide) (by decide) (Nat.le_of_ble_eq_true rfl) (by decide) (by decide) rfl (c_told (by unfold bsc at br; unfold ri; omega)) ?_
      refine pq4 ?_
      exact V_ireturn rfl ⟨by rw [ea]; rfl, rfl, (KM.u2 (x := 0) rfl KM.rf).tr (km.tr (kf.tr kb2.km)), kg.km⟩ dX12_flat_42
    · refine V_iconst dX12_flat_21 ?_
      exact V_ireturn rfl ⟨by unfold aFlat okM okH; simp only [*]; simp, rfl, KM.u2 rfl KM.rf, KM.rf⟩ dX12_flat_22

