/-- the weights from v on: the best, its tenths -/
def wgR (T : TT) (ra : Bool) (sk : Int) (m h : Nat) : Nat → Int → Int × Int → Int × Int
  | 0, _, x => x
  | n + 1, v, x => wgR T ra sk m h n (v + 1) (if (1 ≤ v ∧ v ≤ 30) ∧ bsc T (false, ra, sk, v, T 113 m) m h < x.2 then (v, bsc T (false, ra, sk, v, T 113 m) m h) else x)
theorem w_weighed {T : TT} {Q : QT} {ρ : RT} {f0 : IT} {g0 : JT} (hρ : Fx ρ) (hk : TOK T) {sk : Int} {ra : Bool} (hs : f0 104 67 = sk) (hsk : 0 ≤ sk ∧ sk ≤ 30) (hr : f0 104 68 = bz ra) {m h : Nat} (hm : m < nMe T) (hh : h < nHo T) {nn wt : Int} (hnn : 0 ≤ nn ∧ nn ≤ 10) (hwt : ri wt) (hT0 : MT T f0) {R : Int × Int}
    (hQ : ∀ (f : IT) (g : JT), KM f0 f → KM g0 g → Q (some (.int (iz (if R.1 < 0 then -2 else if wt = 0 then R.1 else R.2)))) ρ f g)
    (n : Nat) (v : Int) (hv : T 115 m - nn ≤ v) (hn : (n : Int) = T 115 m + nn + 1 - v) (x : Int × Int) (hx : -1 ≤ x.1 ∧ x.1 ≤ 100) (hx2 : 0 ≤ x.2 ∧ x.2 ≤ 99999) (f : IT) (g : JT) (hf : KM f0 f) (hg : KM g0 g) (hR : wgR T ra sk m h n v x = R) :
    V_X12_weighed Q 60 [.ref 104, .int (iz (m : Int)), .int (iz (h : Int)), .int (iz nn), .int (iz wt), .int (iz x.1), .int (iz x.2), .int (iz v), .null] [] ρ f g := by
  have h5 := hk.me
  have hT := hT0.km hf
  have hma := hk.man hm
  refine V_il7 dX12_weighed_60 ?_
  refine V_al0n dX12_weighed_62 ?_
  refine V_getR kk104 (by decide) fl_X12_45 (fx_104_38 hρ) dX12_weighed_63 ?_
  refine V_il1n dX12_weighed_66 ?_
  refine V_iald (k := m) kk115 (by decide) (by first | rfl | omega) (by omega) (by first | decide | assumption | omega) (hT.at rfl (by omega : m < 5)) dX12_weighed_67 ?_
  refine V_il3n dX12_weighed_68 ?_
  refine V_iadd dX12_weighed_69 ?_
  refine V_icmp_gt (tgt := 130) dX12_weighed_70 rfl (by first | assumption | (unfold ri at *; omega)) (by first | assumption | (unfold ri at *; omega)) (fun b70 => ?_) (fun b70 => ?_)
  · have en : n = 0 := by omega
    subst en
    simp only [wgR] at hR
    subst hR
    have hq := hQ f g hf hg
    refine V_il5 dX12_weighed_130 ?_
    refine V_if_ge (tgt := 140) dX12_weighed_132 rfl (by first | assumption | (unfold ri at *; omega)) (fun b132 => ?_) (fun b132 => ?_)
    · refine V_il4 dX12_weighed_140 ?_
      refine V_if_ne (tgt := 150) dX12_weighed_142 rfl (by first | assumption | (unfold ri at *; omega)) (fun b142 => ?_) (fun b142 => ?_)
      · refine V_il6 dX12_weighed_150 ?_
        exact V_ireturn rfl (by first | (rw [if_pos (by omega)] at hq; exact hq) | (rw [if_neg (by omega), if_pos (by omega)] at hq; exact hq) | (rw [if_neg (by omega), if_neg (by omega)] at hq; exact hq)) dX12_weighed_152
      · refine V_il5 dX12_weighed_145 ?_
        refine V_goto (tgt := 152) dX12_weighed_147 rfl ?_
        exact V_ireturn rfl (by first | (rw [if_pos (by omega)] at hq; exact hq) | (rw [if_neg (by omega), if_pos (by omega)] at hq; exact hq) | (rw [if_neg (by omega), if_neg (by omega)] at hq; exact hq)) dX12_weighed_152
    · refine V_bipush dX12_weighed_135 rfl ?_
      refine V_goto (tgt := 152) dX12_weighed_137 rfl ?_
      exact V_ireturn rfl (by first | (rw [if_pos (by omega)] at hq; exact hq) | (rw [if_neg (by omega), if_pos (by omega)] at hq; exact hq) | (rw [if_neg (by omega), if_neg (by omega)] at hq; exact hq)) dX12_weighed_152
  · obtain ⟨n', rfl⟩ : ∃ k, n = k + 1 := ⟨n - 1, by omega⟩
    rw [wgR] at hR
    refine V_il7 dX12_weighed_73 ?_
    refine V_iconst dX12_weighed_75 ?_
    refine V_bipush dX12_weighed_76 rfl ?_
    refine V_callS (as := [_, _, _]) ml_X12_199 sm_X12_isIn dX12_weighed_78 rfl rfl (by decide) (by decide) (Nat.le_of_ble_eq_true rfl) (by decide) (by decide) rfl (c_isIn (by unfold ri; omega) (by unfold ri; omega) (by unfold ri; omega)) ?_
    refine pq4 ?_
    refine V_bf (tgt := 87) dX12_weighed_81 rfl (fun b81 => ?_) (fun b81 => ?_)
    · have c81 := b81
      unfold zin at c81
      simp only [decide_eq_true_eq] at c81
      have hcr : CR (false, ra, sk, v, T 113 m) := by unfold CR; simp only; omega
      have br := bsc_rng hk hcr hm hh
      refine V_al0n dX12_weighed_87 ?_
      refine V_il1n dX12_weighed_88 ?_
      refine V_callV (as := [_]) ml_X12_467 im_X12_begins se_X12_begins kk104 (by decide) (by decide) dX12_weighed_89 rfl rfl (by decide) (by decide) (Nat.le_of_ble_eq_true rfl) (by decide) (by decide) rfl (c_begins1 hρ hT hk hm (ra := ra) ((hf 104 67 rfl).trans hs) ((hf 104 68 rfl).trans hr)) ?_
      rintro r89 ρ89 f89 g89 ⟨rfl, s89_0, hM, km, hT2, kb, s89_1⟩
      obtain rfl := s89_0.symm
      obtain rfl := s89_1.symm
      refine V_al0n dX12_weighed_92 ?_
      refine V_il7 dX12_weighed_93 ?_
      refine V_putI kk104 (by decide) fl_X12_414 rfl dX12_weighed_95 ?_
      obtain ⟨m1, m2, m3, m4, m5, m6, m7, m8, m9⟩ := hM
      have kf : KM f89 (u2 f89 104 70 v) := KM.u2 rfl KM.rf
      refine V_al0n dX12_weighed_98 ?_
      refine V_il2n dX12_weighed_99 ?_
      refine V_iconst dX12_weighed_100 ?_
      refine V_callV (as := [_, _]) ml_X12_531 im_X12_bestFrom se_X12_bestFrom kk104 (by decide) (by decide) dX12_weighed_101 rfl rfl (by decide) (by decide) (Nat.le_of_ble_eq_true rfl) (by decide) (by decide) rfl (c_bestFrom hρ (hT2.km kf) hk hh hcr (q := 0) ⟨u2_n (by omega) m1, u2_n (by omega) m2, u2_n (by omega) m3, u2_s, u2_n (by omega) m5⟩ (by omega) (w := (T 113 m).toNat) (l := (T 114 m).toNat) (u2_n (by omega) (m7.trans (by show T 113 m = _; omega))) (by omega) (u2_n (by omega) (m8.trans (by show T 114 m = _; omega))) (by omega)) ?_
      rintro r101 ρ101 f101 g101 ⟨rfl, s101_0, kb2, kg, hB⟩
      obtain rfl := s101_0.symm
      refine V_is8 dX12_weighed_104 (by decide) rfl ?_
      refine V_il8 dX12_weighed_106 ?_
      refine V_il6 dX12_weighed_108 ?_
      refine V_icmp_lt (tgt := 116) dX12_weighed_110 rfl (by unfold bsc at br; unfold ri; omega) (by unfold ri; omega) (fun b110 => ?_) (fun b110 => ?_)
      · rw [if_pos ⟨c81, b110⟩] at hR
        refine V_il8 dX12_weighed_116 ?_
        refine V_is6 dX12_weighed_118 (by decide) rfl ?_
        refine V_il7 dX12_weighed_120 ?_
        refine V_is5 dX12_weighed_122 (by decide) rfl ?_
        refine V_inc7 dX12_weighed_124 (by decide) rfl ?_
        refine V_goto (tgt := 60) dX12_weighed_127 rfl ?_
        exact V_weak (by repeat (first | exact wk_n | refine wk_c (Or.inr rfl) ?_ | refine wk_c (Or.inl rfl) ?_)) (w_weighed hρ hk hs hsk hr hm hh hnn hwt hT0 hQ n' (v + 1) (by omega) (by omega) (v, bsc T (false, ra, sk, v, T 113 m) m h) (by simp only; omega) (by simp only; omega) _ _ (hf.tr (km.tr (kf.tr kb2.km))) (hg.tr kg.km) hR)
      · rw [if_neg (fun cc => b110 cc.2)] at hR
        refine V_goto (tgt := 124) dX12_weighed_113 rfl ?_
        refine V_inc7 dX12_weighed_124 (by decide) rfl ?_
        refine V_goto (tgt := 60) dX12_weighed_127 rfl ?_
        exact V_weak (by repeat (first | exact wk_n | refine wk_c (Or.inr rfl) ?_ | refine wk_c (Or.inl rfl) ?_)) (w_weighed hρ hk hs hsk hr hm hh hnn hwt hT0 hQ n' (v + 1) (by omega) (by omega) x hx hx2 _ _ (hf.tr (km.tr (kf.tr kb2.km))) (hg.tr kg.km) hR)
    · have c81 := b81
      unfold zin at c81
      simp only [decide_eq_false_iff_not] at c81
      rw [if_neg (fun cc => c81 cc.1)] at hR
      refine V_goto (tgt := 124) dX12_weighed_84 rfl ?_
      refine V_inc7 dX12_weighed_124 (by decide) rfl ?_
      refine V_goto (tgt := 60) dX12_weighed_127 rfl ?_
      exact V_weak (by repeat (first | exact wk_n | refine wk_c (Or.inr rfl) ?_ | refine wk_c (Or.inl rfl) ?_)) (w_weighed hρ hk hs hsk hr hm hh hnn hwt hT0 hQ n' (v + 1) (by omega) (by omega) x hx hx2 _ _ hf hg hR)
termination_by n
def wgA (T : TT) (ra : Bool) (sk : Int) (m h : Nat) (n : Int) : Int × Int := wgR T ra sk m h (2 * n + 1).toNat (T 115 m - n) (-1, 99999)
def aWeighed (T : TT) (ra : Bool) (sk m h n w : Int) : Int := if (okM T m && okH T h && zin n 0 10 && zin w 0 1) = true then (if (wgA T ra sk m.toNat h.toNat n).1 < 0 then -2 else if w = 0 then (wgA T ra sk m.toNat h.toNat n).1 else (wgA T ra sk m.toNat h.toNat n).2) else -1
theorem c_mweighed {T : TT} {ρ : RT} {f : IT} {g : JT} (hρ : Fx ρ) (hT : MT T f) (hk : TOK T) {sk : Int} {ra : Bool} (hs : f 104 67 = sk) (hsk : 0 ≤ sk ∧ sk ≤ 30) (hr : f 104 68 = bz ra) {m h n w : Int} (rm : ri m) (rh : ri h) (rn_ : ri n) (rw_ : ri w) :
    C_X12_weighed [.ref 104, .int (iz m), .int (iz h), .int (iz n), .int (iz w)] ρ f g (fun r ρ' f' g' => r = some (.int (iz (aWeighed T ra sk m h n w))) ∧ ρ' = ρ ∧ KM f f' ∧ KM g g') := by
  have h5 := hk.me
  have h3 := hk.ho
  have hT1 : MT T (u2 f 104 2 0) := hT.km (KM.u2 rfl KM.rf)
  refine Ct.ofV (by decide) rfl (Nat.le_of_ble_eq_true rfl) ?_
  refine V_al0n dX12_weighed_0 ?_
  refine V_iconst dX12_weighed_1 ?_
  refine V_putI kk104 (by decide) fl_X12_154 rfl dX12_weighed_2 ?_
  refine V_al0n dX12_weighed_5 ?_
  refine V_il1n dX12_weighed_6 ?_
  refine V_callV (as := [_]) ml_X12_462 im_X12_isMan se_X12_isMan kk104 (by decide) (by decide) dX12_weighed_7 rfl rfl (by decide) (by decide) (Nat.le_of_ble_eq_true rfl) (by decide) (by decide) rfl (c_isMan rm ((hT1 104 13 rfl).trans h5.1) (by unfold ri; omega)) ?_
  refine pq4 ?_
  refine V_bt (tgt := 41) dX12_weighed_10 rfl (fun b10 => ?_) (fun b10 => ?_)
  · refine V_iconst dX12_weighed_41 ?_
    exact V_ireturn rfl ⟨by unfold aWeighed okM okH; simp only [*]; simp, rfl, KM.u2 rfl KM.rf, KM.rf⟩ dX12_weighed_42
  · refine V_al0n dX12_weighed_13 ?_
    refine V_il2n dX12_weighed_14 ?_
    refine V_callV (as := [_]) ml_X12_514 im_X12_isHold se_X12_isHold kk104 (by decide) (by decide) dX12_weighed_15 rfl rfl (by decide) (by decide) (Nat.le_of_ble_eq_true rfl) (by decide) (by decide) rfl (c_isHold rh ((hT1 104 14 rfl).trans h3.1) (by unfold ri; omega)) ?_
    refine pq4 ?_
    refine V_bt (tgt := 41) dX12_weighed_18 rfl (fun b18 => ?_) (fun b18 => ?_)
    · refine V_iconst dX12_weighed_41 ?_
      exact V_ireturn rfl ⟨by unfold aWeighed okM okH; simp only [*]; simp, rfl, KM.u2 rfl KM.rf, KM.rf⟩ dX12_weighed_42
    · refine V_il3n dX12_weighed_21 ?_
      refine V_iconst dX12_weighed_22 ?_
      refine V_bipush dX12_weighed_23 rfl ?_
      refine V_callS (as := [_, _, _]) ml_X12_199 sm_X12_isIn dX12_weighed_25 rfl rfl (by decide) (by decide) (Nat.le_of_ble_eq_true rfl) (by decide) (by decide) rfl (c_isIn rn_ (by unfold ri; omega) (by unfold ri; omega)) ?_
      refine pq4 ?_
      refine V_bt (tgt := 41) dX12_weighed_28 rfl (fun b28 => ?_) (fun b28 => ?_)
      · refine V_iconst dX12_weighed_41 ?_
        exact V_ireturn rfl ⟨by unfold aWeighed okM okH; simp only [*]; simp, rfl, KM.u2 rfl KM.rf, KM.rf⟩ dX12_weighed_42
      · refine V_il4 dX12_weighed_31 ?_
        refine V_iconst dX12_weighed_33 ?_
        refine V_iconst dX12_weighed_34 ?_
        refine V_callS (as := [_, _, _]) ml_X12_199 sm_X12_isIn dX12_weighed_35 rfl rfl (by decide) (by decide) (Nat.le_of_ble_eq_true rfl) (by decide) (by decide) rfl (c_isIn rw_ (by unfold ri; omega) (by unfold ri; omega)) ?_
        refine pq4 ?_
        refine V_bf (tgt := 43) dX12_weighed_38 rfl (fun b38 => ?_) (fun b38 => ?_)
        · have c1 := b10
          have c2 := b18
          have c3 := b28
          unfold zin at c3
          simp only [decide_eq_true_eq] at c1 c2 c3
          obtain ⟨mN, rfl⟩ : ∃ n : Nat, m = n := ⟨m.toNat, by omega⟩
          obtain ⟨hN, rfl⟩ : ∃ n : Nat, h = n := ⟨h.toNat, by omega⟩
          have hma := hk.man (k := mN) (by omega)
          have ea : aWeighed T ra sk (mN : Int) (hN : Int) n w = (if (wgA T ra sk mN hN n).1 < 0 then -2 else if w = 0 then (wgA T ra sk mN hN n).1 else (wgA T ra sk mN hN n).2) := by unfold aWeighed okM okH; simp only [Int.toNat_natCast, b10, b18, b28, b38]; simp
          refine V_iconst dX12_weighed_43 ?_
          refine V_is5 dX12_weighed_44 (by decide) rfl ?_
          refine V_ldc (a := 99999) kc_X12_192 rfl dX12_weighed_46 ?_
          refine V_is6 dX12_weighed_48 (by decide) rfl ?_
          refine V_al0n dX12_weighed_50 ?_
          refine V_getR kk104 (by decide) fl_X12_45 (fx_104_38 hρ) dX12_weighed_51 ?_
          refine V_il1n dX12_weighed_54 ?_
          refine V_iald (k := mN) kk115 (by decide) (by first | rfl | omega) (by omega) (by first | decide | assumption | omega) (hT1.at rfl (by omega : mN < 5)) dX12_weighed_55 ?_
          refine V_il3n dX12_weighed_56 ?_
          refine V_isub dX12_weighed_57 ?_
          refine V_is7 dX12_weighed_58 (by decide) rfl ?_
          exact w_weighed hρ hk (f0 := u2 f 104 2 0) (g0 := g) (ra := ra) (u2_n (by omega) hs) hsk (u2_n (by omega) hr) (m := mN) (h := hN) (by omega) (by omega) c3 rw_ hT1 (R := wgA T ra sk mN hN n) (fun f' g' a1 a2 => ⟨by rw [ea], rfl, (KM.u2 (x := 0) rfl KM.rf).tr a1, a2⟩) (2 * n + 1).toNat _ (by omega) (by omega) (-1, 99999) (by simp) (by simp) _ _ KM.rf KM.rf rfl
        · refine V_iconst dX12_weighed_41 ?_
          exact V_ireturn rfl ⟨by unfold aWeighed okM okH; simp only [*]; simp, rfl, KM.u2 rfl KM.rf, KM.rf⟩ dX12_weighed_42
/-- the heaviest sack with which he comes up in time -/
def alR (T : TT) (ra : Bool) (m h : Nat) (most : Int) : Nat → Int
  | 0 => -2
  | n + 1 => if bsc T (false, ra, (n : Int), T 115 m, T 113 m) m h ≤ most then (n : Int) else alR T ra m h most n
theorem w_alike {T : TT} {Q : QT} {ρ : RT} {f0 : IT} {g0 : JT} (hρ : Fx ρ) (hk : TOK T) {sk : Int} {ra : Bool} (hs : f0 104 67 = sk) (hsk : 0 ≤ sk ∧ sk ≤ 30) (hr : f0 104 68 = bz ra) {m h : Nat} (hm : m < nMe T) (hh : h < nHo T) {most R : Int} (hmo : 0 ≤ most ∧ most ≤ 9999) (hT0 : MT T f0)
    (hQ : ∀ (f : IT) (g : JT), KM f0 f → KM g0 g → Q (some (.int (iz R))) ρ f g)
    (n : Nat) (hn : n ≤ 31) (e : Int) (he : e = (n : Int) - 1) (f : IT) (g : JT) (hf : KM f0 f) (hg : KM g0 g) (hR : alR T ra m h most n = R) :
    V_X12_alike Q 38 [.ref 104, .int (iz (m : Int)), .int (iz (h : Int)), .int (iz most), .int (iz e)] [] ρ f g := by
  have h5 := hk.me
  have hT := hT0.km hf
  have hma := hk.man hm
  refine V_il4 dX12_alike_38 ?_
  refine V_if_lt (tgt := 73) dX12_alike_40 rfl (by first | assumption | (unfold ri at *; omega)) (fun b40 => ?_) (fun b40 => ?_)
  · have en : n = 0 := by omega
    subst en
    simp only [alR] at hR
    subst hR
    refine V_bipush dX12_alike_73 rfl ?_
    exact V_ireturn rfl (hQ f g hf hg) dX12_alike_75
  · obtain ⟨n', rfl⟩ : ∃ k, n = k + 1 := ⟨n - 1, by omega⟩
    have ee : e = (n' : Int) := by omega
    subst ee
    rw [alR] at hR
    have hcr : CR (false, ra, (n' : Int), T 115 m, T 113 m) := by unfold CR; simp only; omega
    have br := bsc_rng hk hcr hm hh
    refine V_al0n dX12_alike_43 ?_
    refine V_il1n dX12_alike_44 ?_
    refine V_callV (as := [_]) ml_X12_467 im_X12_begins se_X12_begins kk104 (by decide) (by decide) dX12_alike_45 rfl rfl (by decide) (by decide) (Nat.le_of_ble_eq_true rfl) (by decide) (by decide) rfl (c_begins1 hρ hT hk hm (ra := ra) ((hf 104 67 rfl).trans hs) ((hf 104 68 rfl).trans hr)) ?_
    rintro r45 ρ45 f45 g45 ⟨rfl, s45_0, hM, km, hT2, kb, s45_1⟩
    obtain rfl := s45_0.symm
    obtain rfl := s45_1.symm
    refine V_al0n dX12_alike_48 ?_
    refine V_il4 dX12_alike_49 ?_
    refine V_putI kk104 (by decide) fl_X12_411 rfl dX12_alike_51 ?_
    obtain ⟨m1, m2, m3, m4, m5, m6, m7, m8, m9⟩ := hM
    have kf : KM f45 (u2 f45 104 71 (n' : Int)) := KM.u2 rfl KM.rf
    refine V_al0n dX12_alike_54 ?_
    refine V_il2n dX12_alike_55 ?_
    refine V_iconst dX12_alike_56 ?_
    refine V_callV (as := [_, _]) ml_X12_531 im_X12_bestFrom se_X12_bestFrom kk104 (by decide) (by decide) dX12_alike_57 rfl rfl (by decide) (by decide) (Nat.le_of_ble_eq_true rfl) (by decide) (by decide) rfl (c_bestFrom hρ (hT2.km kf) hk hh hcr (q := 0) ⟨u2_n (by omega) m1, u2_n (by omega) m2, u2_s, u2_n (by omega) m4, u2_n (by omega) m5⟩ (by omega) (w := (T 113 m).toNat) (l := (T 114 m).toNat) (u2_n (by omega) (m7.trans (by show T 113 m = _; omega))) (by omega) (u2_n (by omega) (m8.trans (by show T 114 m = _; omega))) (by omega)) ?_
    rintro r57 ρ57 f57 g57 ⟨rfl, s57_0, kb2, kg, hB⟩
    obtain rfl := s57_0.symm
    refine V_il3n dX12_alike_60 ?_
    refine V_icmp_gt (tgt := 67) dX12_alike_61 rfl (by unfold bsc at br; unfold ri; omega) (by unfold ri; omega) (fun b61 => ?_) (fun b61 => ?_)
    · rw [if_neg (by unfold bsc; omega)] at hR
      refine V_inc4 dX12_alike_67 (by decide) rfl ?_
      refine V_goto (tgt := 38) dX12_alike_70 rfl ?_
      exact w_alike hρ hk hs hsk hr hm hh hmo hT0 hQ n' (by omega) _ (by omega) _ _ (hf.tr (km.tr (kf.tr kb2.km))) (hg.tr kg.km) hR
    · rw [if_pos (by unfold bsc; omega)] at hR
      subst hR
      refine V_il4 dX12_alike_64 ?_
      exact V_ireturn rfl (hQ _ _ (hf.tr (km.tr (kf.tr kb2.km))) (hg.tr kg.km)) dX12_alike_66
termination_by n
def aAlike (T : TT) (ra : Bool) (m h w : Int) : Int := if (okM T m && okH T h && zin w 0 9999) = true then alR T ra m.toNat h.toNat w 31 else -1
theorem c_malike {T : TT} {ρ : RT} {f : IT} {g : JT} (hρ : Fx ρ) (hT : MT T f) (hk : TOK T) {sk : Int} {ra : Bool} (hs : f 104 67 = sk) (hsk : 0 ≤ sk ∧ sk ≤ 30) (hr : f 104 68 = bz ra) {m h w : Int} (rm : ri m) (rh : ri h) (rw_ : ri w) :
    C_X12_alike [.ref 104, .int (iz m), .int (iz h), .int (iz w)] ρ f g (fun r ρ' f' g' => r = some (.int (iz (aAlike T ra m h w))) ∧ ρ' = ρ ∧ KM f f' ∧ KM g g') := by
  have h5 := hk.me
  have h3 := hk.ho
  have hT1 : MT T (u2 f 104 2 0) := hT.km (KM.u2 rfl KM.rf)
  refine Ct.ofV (by decide) rfl (Nat.le_of_ble_eq_true rfl) ?_
  refine V_al0n dX12_alike_0 ?_
  refine V_iconst dX12_alike_1 ?_
  refine V_putI kk104 (by decide) fl_X12_154 rfl dX12_alike_2 ?_
  refine V_al0n dX12_alike_5 ?_
  refine V_il1n dX12_alike_6 ?_
  refine V_callV (as := [_]) ml_X12_462 im_X12_isMan se_X12_isMan kk104 (by decide) (by decide) dX12_alike_7 rfl rfl (by decide) (by decide) (Nat.le_of_ble_eq_true rfl) (by decide) (by decide) rfl (c_isMan rm ((hT1 104 13 rfl).trans h5.1) (by unfold ri; omega)) ?_
  refine pq4 ?_
  refine V_bt (tgt := 32) dX12_alike_10 rfl (fun b10 => ?_) (fun b10 => ?_)
  · refine V_iconst dX12_alike_32 ?_
    exact V_ireturn rfl ⟨by unfold aAlike okM okH; simp only [*]; simp, rfl, KM.u2 rfl KM.rf, KM.rf⟩ dX12_alike_33
  · refine V_al0n dX12_alike_13 ?_
    refine V_il2n dX12_alike_14 ?_
    refine V_callV (as := [_]) ml_X12_514 im_X12_isHold se_X12_isHold kk104 (by decide) (by decide) dX12_alike_15 rfl rfl (by decide) (by decide) (Nat.le_of_ble_eq_true rfl) (by decide) (by decide) rfl (c_isHold rh ((hT1 104 14 rfl).trans h3.1) (by unfold ri; omega)) ?_
    refine pq4 ?_
    refine V_bt (tgt := 32) dX12_alike_18 rfl (fun b18 => ?_) (fun b18 => ?_)
    · refine V_iconst dX12_alike_32 ?_
      exact V_ireturn rfl ⟨by unfold aAlike okM okH; simp only [*]; simp, rfl, KM.u2 rfl KM.rf, KM.rf⟩ dX12_alike_33
    · refine V_il3n dX12_alike_21 ?_
      refine V_iconst dX12_alike_22 ?_
      refine V_sipush dX12_alike_23 rfl ?_
      refine V_callS (as := [_, _, _]) ml_X12_199 sm_X12_isIn dX12_alike_26 rfl rfl (by decide) (by decide) (Nat.le_of_ble_eq_true rfl) (by decide) (by decide) rfl (c_isIn rw_ (by unfold ri; omega) (by unfold ri; omega)) ?_
      refine pq4 ?_
      refine V_bf (tgt := 34) dX12_alike_29 rfl (fun b29 => ?_) (fun b29 => ?_)
      · have c1 := b10
        have c2 := b18
        have c3 := b29
        unfold zin at c3
        simp only [decide_eq_true_eq] at c1 c2 c3
        obtain ⟨mN, rfl⟩ : ∃ n : Nat, m = n := ⟨m.toNat, by omega⟩
        obtain ⟨hN, rfl⟩ : ∃ n : Nat, h = n := ⟨h.toNat, by omega⟩
        have ea : aAlike T ra (mN : Int) (hN : Int) w = alR T ra mN hN w 31 := by unfold aAlike okM okH; simp only [Int.toNat_natCast, b10, b18, b29]; simp
        refine V_bipush dX12_alike_34 rfl ?_
        refine V_is4 dX12_alike_36 (by decide) rfl ?_
        exact w_alike hρ hk (f0 := u2 f 104 2 0) (g0 := g) (ra := ra) (u2_n (by omega) hs) hsk (u2_n (by omega) hr) (m := mN) (h := hN) (by omega) (by omega) c3 hT1 (R := alR T ra mN hN w 31) (fun f' g' a1 a2 => ⟨by rw [ea], rfl, (KM.u2 (x := 0) rfl KM.rf).tr a1, a2⟩) 31 (by omega) _ (by omega) _ _ KM.rf KM.rf rfl
      · refine V_iconst dX12_alike_32 ?_
        exact V_ireturn rfl ⟨by unfold aAlike okM okH; simp only [*]; simp, rfl, KM.u2 rfl KM.rf, KM.rf⟩ dX12_alike_33

