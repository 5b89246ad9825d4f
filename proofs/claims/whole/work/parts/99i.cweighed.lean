section CWEIGHED
variable {T : TT} {b : Nat}
theorem QS.wk {n n' : Int} {ρ0 ρ : RT} {f0 f : IT} {g0 g : JT} (h : QS T b n ρ0 f0 g0 ρ f g) (hn : n ≤ n') : QS T b n' ρ0 f0 g0 ρ f g := ⟨h.1, h.2.1, h.2.2.1, h.2.2.2.1, h.2.2.2.2.1.wk hn, h.2.2.2.2.2⟩
theorem wgR_hi {ra : Bool} {sk : Int} {m h : Nat} : ∀ (n : Nat) (v : Int) (x : Int × Int), 30 < v → wgR T ra sk m h n v x = x
  | 0, _, _, _ => rfl
  | n + 1, v, x, hv => by rw [wgR, if_neg (by omega), wgR_hi n (v + 1) x (by omega)]
theorem wgR_lo {ra : Bool} {sk : Int} {m h : Nat} : ∀ (d n : Nat) (v : Int) (x : Int × Int), v + (d : Int) ≤ 1 → wgR T ra sk m h (d + n) v x = wgR T ra sk m h n (v + (d : Int)) x
  | 0, n, v, x, _ => by simp
  | d + 1, n, v, x, hv => by
    rw [show d + 1 + n = (d + n) + 1 by omega, wgR, if_neg (by omega), wgR_lo d n (v + 1) x (by omega)]
    congr 1
    omega
theorem w_cweighed {Q : QT} {ρ0 : RT} {f0 : IT} {g0 : JT} (hk : TOK T) {sk : Int} {ra : Bool} (hs0 : f0 0 5 = sk) (hsk : 0 ≤ sk ∧ sk ≤ 30) (hr0 : f0 0 6 = bz ra) (h50 : f0 55 5 < 999900) {m h : Nat} (hm : m < nMe T) (hh : h < nHo T) {nn wt : Int} (hnn : 0 ≤ nn ∧ nn ≤ 10) (hwt : ri wt) {R : Int × Int}
    (hQ : ∀ (ρ : RT) (f : IT) (g : JT), QS T b 31 ρ0 f0 g0 ρ f g → Q (some (.int (iz (if R.1 < 0 then -2 else if wt = 0 then R.1 else R.2)))) ρ f g)
    (n : Nat) (v : Int) (hv1 : 1 ≤ v ∧ T 115 m - nn ≤ v) (hn : n = (T 115 m + nn + 1 - v).toNat) (x : Int × Int) {X1 X2 : Int} (hX : (x.1 = -1 ∧ x.2 = 99999 ∧ X1 = -2 ∧ X2 = -2) ∨ (0 ≤ x.1 ∧ x.1 ≤ 100 ∧ X1 = x.1 ∧ X2 = x.2 ∧ 0 ≤ x.2 ∧ x.2 ≤ 99998)) (hv2 : v ≤ 31) (ρ : RT) (f : IT) (g : JT) (hS : QS T b (v - 1) ρ0 f0 g0 ρ f g) (hR : wgR T ra sk m h n v x = R) :
    V_X11_weighed Q 59 [.ref 0, .int (iz (m : Int)), .int (iz (h : Int)), .int (iz nn), .int (iz wt), .int (iz (T 115 m)), .int (iz X1), .int (iz X2), .int (iz v), .null] [] ρ f g := by
  have hS0 := hS
  obtain ⟨hW, hC, ⟨fl0, ra0, hG⟩, hI, s5, s6, s7, s8⟩ := hS
  have hρ := hW.1
  have hb := hW.2.1
  have hma := hk.man hm
  have hs : f 0 5 = sk := (s7 0 5 (by omega) (by omega) (by omega) (by omega) (by omega)).trans hs0
  have hr : f 0 6 = bz ra := (s7 0 6 (by omega) (by omega) (by omega) (by omega) (by omega)).trans hr0
  have h5 : f 55 5 < 1000000 := by have := s5.2; omega
  have rX1 : ri X1 := by unfold ri; omega
  have rX2 : ri X2 := by unfold ri; omega
  by_cases c : 30 < v ∨ T 115 m + nn < v
  · have hRx : x = R := by
      rw [← hR]
      by_cases c' : 30 < v
      · rw [wgR_hi n v x c']
      · rw [show n = 0 by omega]; rfl
    subst hRx
    have hq := hQ ρ f g (hS0.wk (by omega))
    refine V_il8 dX11_weighed_59 ?_
    refine V_bipush dX11_weighed_61 rfl ?_
    refine V_il5 dX11_weighed_63 ?_
    refine V_il3n dX11_weighed_65 ?_
    refine V_iadd dX11_weighed_66 ?_
    refine V_mmin ml_X11_310 sm_J9_min_7cf53 dX11_weighed_67 (by unfold ri; omega) (by unfold ri; omega) (by decide) (Nat.le_of_ble_eq_true rfl) (by decide) (by decide) ?_
    refine V_icmp_gt (tgt := 138) dX11_weighed_70 rfl (by unfold ri; omega) (by unfold ri; split <;> omega) (fun b70 => ?_) (fun b70 => ?_)
    · refine V_il4 dX11_weighed_138 ?_
      refine V_if_ne (tgt := 148) dX11_weighed_140 rfl hwt (fun b140 => ?_) (fun b140 => ?_)
      · refine V_il7 dX11_weighed_148 ?_
        exact V_ireturn rfl (by first | (rw [show (if x.1 < 0 then (-2 : Int) else if wt = 0 then x.1 else x.2) = X1 by (repeat' split) <;> omega] at hq; exact hq) | (rw [show (if x.1 < 0 then (-2 : Int) else if wt = 0 then x.1 else x.2) = X2 by (repeat' split) <;> omega] at hq; exact hq)) dX11_weighed_150
      · refine V_il6 dX11_weighed_143 ?_
        refine V_goto (tgt := 150) dX11_weighed_145 rfl ?_
        exact V_ireturn rfl (by first | (rw [show (if x.1 < 0 then (-2 : Int) else if wt = 0 then x.1 else x.2) = X1 by (repeat' split) <;> omega] at hq; exact hq) | (rw [show (if x.1 < 0 then (-2 : Int) else if wt = 0 then x.1 else x.2) = X2 by (repeat' split) <;> omega] at hq; exact hq)) dX11_weighed_150
    · exfalso; split at b70 <;> omega
  · obtain ⟨n', rfl⟩ : ∃ k, n = k + 1 := ⟨n - 1, by omega⟩
    rw [wgR] at hR
    have hcr : CR (false, ra, sk, v, T 113 m) := by unfold CR; simp only; omega
    have br := bsc_rng hk hcr hm hh
    have e0 : skA T (false, ra, sk, v, T 113 m) (T 117 h) 0 (stM T m) = if bsc T (false, ra, sk, v, T 113 m) m h = 99999 then -2 else bsc T (false, ra, sk, v, T 113 m) m h := rfl
    have rS : ri (skA T (false, ra, sk, v, T 113 m) (T 117 h) 0 (stM T m)) := by rw [e0]; unfold ri; split <;> omega
    have hsk' := fun (f' : IT) (q1 : LU T false ra sk v f g f') (hC2 : CT T b f') => c_seek (c := (false, ra, sk, v, T 113 m)) (q := 0) hW hC2 hcr q1.2.1 q1.ge hm hh rfl (by omega) (hI.lu q1)
    generalize skA T (false, ra, sk, v, T 113 m) (T 117 h) 0 (stM T m) = S at *
    refine V_il8 dX11_weighed_59 ?_
    refine V_bipush dX11_weighed_61 rfl ?_
    refine V_il5 dX11_weighed_63 ?_
    refine V_il3n dX11_weighed_65 ?_
    refine V_iadd dX11_weighed_66 ?_
    refine V_mmin ml_X11_310 sm_J9_min_7cf53 dX11_weighed_67 (by unfold ri; omega) (by unfold ri; omega) (by decide) (Nat.le_of_ble_eq_true rfl) (by decide) (by decide) ?_
    refine V_icmp_gt (tgt := 138) dX11_weighed_70 rfl (by unfold ri; omega) (by unfold ri; split <;> omega) (fun b70 => ?_) (fun b70 => ?_)
    · exfalso; split at b70 <;> omega
    · refine V_al0n dX11_weighed_73 ?_
      refine V_getR kk0 (by decide) fl_X11_48 (fx_0_7 hρ) dX11_weighed_74 ?_
      refine V_il8 dX11_weighed_77 ?_
      refine V_al0n dX11_weighed_79 ?_
      refine V_getI kk0 (by decide) fl_X11_36 hs dX11_weighed_80 ?_
      refine V_al0n dX11_weighed_83 ?_
      refine V_getZ kk0 (by decide) fl_X11_39 hr dX11_weighed_84 ?_
      refine V_iconst dX11_weighed_87 ?_
      refine V_callV (as := [_, _, _, _]) ml_X11_313 im_X0_lieUnder se_X0_lieUnder kk55 (by decide) (by decide) dX11_weighed_88 rfl rfl (by decide) (by decide) (Nat.le_of_ble_eq_true rfl) (by decide) (by decide) rfl (c_lieUnder (fl := false) hW.1 hW.2.2.2.1 hW.2.1 hC hk hG h5 (by omega) hsk) ?_
      rintro r88 ρ88 f88 g88 ⟨rfl, s88_0, s88_1, q1⟩
      obtain rfl := s88_0.symm
      obtain rfl := s88_1.symm
      have hC2 : CT T b f88 := hC.cg hb (fun a k h1 h2 => q1.1 a k (by omega) (by omega))
      refine V_al0n dX11_weighed_91 ?_
      refine V_getR kk0 (by decide) fl_X11_86 (fx_0_16 hρ) dX11_weighed_92 ?_
      refine V_il1n dX11_weighed_95 ?_
      refine V_il2n dX11_weighed_96 ?_
      refine V_iconst dX11_weighed_97 ?_
      refine V_callV (as := [_, _, _]) ml_X11_277 im_X4_seek se_X4_seek kk66 (by decide) (by decide) dX11_weighed_98 rfl rfl (by decide) (by decide) (Nat.le_of_ble_eq_true rfl) (by decide) (by decide) rfl (hsk' f88 q1 hC2) ?_
      rintro r98 ρ98 f98 g98 ⟨rfl, t1, t2, t3, t4, t5, t6⟩
      have hS2 := QS.step hS0 q1 t1 t2 t3 t4 t6
      refine V_is9 dX11_weighed_101 (by decide) rfl ?_
      refine V_il9 dX11_weighed_103 ?_
      refine V_bipush dX11_weighed_105 rfl ?_
      refine V_icmp_eq (tgt := 132) dX11_weighed_107 rfl rS (by unfold ri; omega) (fun b107 => ?_) (fun b107 => ?_)
      · refine V_inc8 dX11_weighed_132 (by decide) rfl ?_
        refine V_goto (tgt := 59) dX11_weighed_135 rfl ?_
        (have hn2 : ¬ ((1 ≤ v ∧ v ≤ 30) ∧ bsc T (false, ra, sk, v, T 113 m) m h < x.2) := by (split at e0 <;> omega)); rw [if_neg hn2] at hR; exact V_weak (by repeat (first | exact wk_n | refine wk_c (Or.inr rfl) ?_ | refine wk_c (Or.inl rfl) ?_)) (w_cweighed hk hs0 hsk hr0 h50 hm hh hnn hwt hQ n' (v + 1) (by omega) (by omega) x hX (by omega) _ _ _ (hS2.wk (by omega)) hR)
      · refine V_il6 dX11_weighed_110 ?_
        refine V_bipush dX11_weighed_112 rfl ?_
        refine V_icmp_eq (tgt := 124) dX11_weighed_114 rfl rX1 (by unfold ri; omega) (fun b114 => ?_) (fun b114 => ?_)
        · refine V_il8 dX11_weighed_124 ?_
          refine V_is6 dX11_weighed_126 (by decide) rfl ?_
          refine V_il9 dX11_weighed_128 ?_
          refine V_is7 dX11_weighed_130 (by decide) rfl ?_
          refine V_inc8 dX11_weighed_132 (by decide) rfl ?_
          refine V_goto (tgt := 59) dX11_weighed_135 rfl ?_
          (have hn2 : (1 ≤ v ∧ v ≤ 30) ∧ bsc T (false, ra, sk, v, T 113 m) m h < x.2 := by (split at e0 <;> omega)); (have hv : S = bsc T (false, ra, sk, v, T 113 m) m h ∧ bsc T (false, ra, sk, v, T 113 m) m h ≠ 99999 := by (split at e0 <;> omega)); rw [if_pos hn2] at hR; exact V_weak (by repeat (first | exact wk_n | refine wk_c (Or.inr rfl) ?_ | refine wk_c (Or.inl rfl) ?_)) (w_cweighed hk hs0 hsk hr0 h50 hm hh hnn hwt hQ n' (v + 1) (by omega) (by omega) (v, bsc T (false, ra, sk, v, T 113 m) m h) (Or.inr ⟨by simp only; omega, by simp only; omega, rfl, hv.1, by simp only; omega, by simp only; omega⟩) (by omega) _ _ _ (hS2.wk (by omega)) hR)
        · refine V_il9 dX11_weighed_117 ?_
          refine V_il7 dX11_weighed_119 ?_
          refine V_icmp_ge (tgt := 132) dX11_weighed_121 rfl rS rX2 (fun b121 => ?_) (fun b121 => ?_)
          · refine V_inc8 dX11_weighed_132 (by decide) rfl ?_
            refine V_goto (tgt := 59) dX11_weighed_135 rfl ?_
            (have hn2 : ¬ ((1 ≤ v ∧ v ≤ 30) ∧ bsc T (false, ra, sk, v, T 113 m) m h < x.2) := by (split at e0 <;> omega)); rw [if_neg hn2] at hR; exact V_weak (by repeat (first | exact wk_n | refine wk_c (Or.inr rfl) ?_ | refine wk_c (Or.inl rfl) ?_)) (w_cweighed hk hs0 hsk hr0 h50 hm hh hnn hwt hQ n' (v + 1) (by omega) (by omega) x hX (by omega) _ _ _ (hS2.wk (by omega)) hR)
          · refine V_il8 dX11_weighed_124 ?_
            refine V_is6 dX11_weighed_126 (by decide) rfl ?_
            refine V_il9 dX11_weighed_128 ?_
            refine V_is7 dX11_weighed_130 (by decide) rfl ?_
            refine V_inc8 dX11_weighed_132 (by decide) rfl ?_
            refine V_goto (tgt := 59) dX11_weighed_135 rfl ?_
            (have hn2 : (1 ≤ v ∧ v ≤ 30) ∧ bsc T (false, ra, sk, v, T 113 m) m h < x.2 := by (split at e0 <;> omega)); (have hv : S = bsc T (false, ra, sk, v, T 113 m) m h ∧ bsc T (false, ra, sk, v, T 113 m) m h ≠ 99999 := by (split at e0 <;> omega)); rw [if_pos hn2] at hR; exact V_weak (by repeat (first | exact wk_n | refine wk_c (Or.inr rfl) ?_ | refine wk_c (Or.inl rfl) ?_)) (w_cweighed hk hs0 hsk hr0 h50 hm hh hnn hwt hQ n' (v + 1) (by omega) (by omega) (v, bsc T (false, ra, sk, v, T 113 m) m h) (Or.inr ⟨by simp only; omega, by simp only; omega, rfl, hv.1, by simp only; omega, by simp only; omega⟩) (by omega) _ _ _ (hS2.wk (by omega)) hR)
termination_by n
theorem c_weighed {ρ : RT} {f : IT} {g : JT} (hW : TW T b ρ) (hC : CT T b f) {fl0 ra0 : Bool} (hG : GI T fl0 ra0 f g) (hI : SrI T ρ f g) (h5 : f 55 5 < 999900) {sk : Int} {ra : Bool} (hs : f 0 5 = sk) (hsk : 0 ≤ sk ∧ sk ≤ 30) (hr : f 0 6 = bz ra) {m h n w : Int} (rm : ri m) (rh : ri h) (rn_ : ri n) (rw_ : ri w) : C_X11_weighed [.ref 0, .int (iz m), .int (iz h), .int (iz n), .int (iz w)] ρ f g (fun r ρ' f' g' => r = some (.int (iz (aWeighed T ra sk m h n w))) ∧ QS T b 31 ρ f g ρ' f' g') := by
  have hk := hW.2.2.2.2.1
  have hρ := hW.1
  have hb := hW.2.1
  have h5' := hk.me
  refine Ct.ofV (by decide) rfl (Nat.le_of_ble_eq_true rfl) ?_
  by_cases c : (okM T m && okH T h) = true ∧ (0 ≤ n ∧ n ≤ 10) ∧ zin w 0 1 = true
  · obtain ⟨c1, c3, c4⟩ := c
    have c2 := c1
    rw [Bool.and_eq_true] at c2
    obtain ⟨mN, rfl, hm⟩ := okM_at c2.1
    obtain ⟨hN, rfl, hh⟩ := okH_at c2.2
    have hma := hk.man hm
    have ea : aWeighed T ra sk (mN : Int) (hN : Int) n w = if (wgA T ra sk mN hN n).1 < 0 then -2 else if w = 0 then (wgA T ra sk mN hN n).1 else (wgA T ra sk mN hN n).2 := by
      unfold aWeighed
      rw [c1, c4, show zin n 0 10 = true by unfold zin; simpa using c3, Bool.and_true, Bool.and_true, if_pos rfl, Int.toNat_natCast, Int.toNat_natCast]
    rw [ea]
    have t := tat1 hk (j := 2) hm (by omega)
    simp [tcl] at t
    have hat := c_at (f := f) (g := g) hW.1 hW.2.1 hC hk (i := 1) (by omega) (k := (mN : Int)) (j := 2) (by unfold ri; omega) (by unfold ri; omega)
    rw [t] at hat
    have hgo : ∀ v0 : Int, v0 = (if 1 < T 115 mN - n then T 115 mN - n else 1) → wgR T ra sk mN hN (T 115 mN + n + 1 - v0).toNat v0 (-1, 99999) = wgA T ra sk mN hN n := fun v0 hv0 => by
      unfold wgA
      by_cases c9 : 1 < T 115 mN - n
      · rw [if_pos c9] at hv0
        subst hv0
        congr 1
        omega
      · rw [if_neg c9] at hv0
        subst hv0
        have := wgR_lo (T := T) (ra := ra) (sk := sk) (m := mN) (h := hN) (1 - (T 115 mN - n)).toNat (T 115 mN + n).toNat (T 115 mN - n) (-1, 99999) (by omega)
        rw [show (2 * n + 1).toNat = (1 - (T 115 mN - n)).toNat + (T 115 mN + n).toNat by omega, this]
        congr 1 <;> omega
    refine V_al0n dX11_weighed_0 ?_
    refine V_il1n dX11_weighed_1 ?_
    refine V_il2n dX11_weighed_2 ?_
    refine V_callV (as := [_, _]) ml_X11_274 im_X11_canHold se_X11_canHold kk0 (by decide) (by decide) dX11_weighed_3 rfl rfl (by decide) (by decide) (Nat.le_of_ble_eq_true rfl) (by decide) (by decide) rfl (c_canHold hW hC rm rh) ?_
    refine pq4 ?_
    refine V_bt (tgt := 27) dX11_weighed_6 rfl (fun b6 => ?_) (fun b6 => ?_)
    · rw [c1] at b6; cases b6
    · refine V_il3n dX11_weighed_9 ?_
      refine V_if_lt (tgt := 27) dX11_weighed_10 rfl rn_ (fun b10 => ?_) (fun b10 => ?_)
      · exfalso; omega
      · refine V_il3n dX11_weighed_13 ?_
        refine V_bipush dX11_weighed_14 rfl ?_
        refine V_icmp_gt (tgt := 27) dX11_weighed_16 rfl rn_ (by unfold ri; omega) (fun b16 => ?_) (fun b16 => ?_)
        · exfalso; omega
        · refine V_il4 dX11_weighed_19 ?_
          refine V_callS (as := [_]) ml_X11_283 sm_X11_isPair dX11_weighed_21 rfl rfl (by decide) (by decide) (Nat.le_of_ble_eq_true rfl) (by decide) (by decide) rfl (c_isPair rw_) ?_
          refine pq4 ?_
          refine V_bf (tgt := 29) dX11_weighed_24 rfl (fun b24 => ?_) (fun b24 => ?_)
          · refine V_al0n dX11_weighed_29 ?_
            refine V_getR kk0 (by decide) fl_X11_29 hW.2.2.1 dX11_weighed_30 ?_
            refine V_iconst dX11_weighed_33 ?_
            refine V_il1n dX11_weighed_34 ?_
            refine V_iconst dX11_weighed_35 ?_
            refine V_callV (as := [_, _, _]) ml_X11_176 im_X7_at se_X7_at (kb_0 hb) (by decide) (kl_0 hb) dX11_weighed_36 rfl rfl (by decide) (by decide) (Nat.le_of_ble_eq_true rfl) (by decide) (by decide) rfl (hat) ?_
            refine pq4 ?_
            refine V_is5 dX11_weighed_39 (by decide) rfl ?_
            refine V_bipush dX11_weighed_41 rfl ?_
            refine V_is6 dX11_weighed_43 (by decide) rfl ?_
            refine V_bipush dX11_weighed_45 rfl ?_
            refine V_is7 dX11_weighed_47 (by decide) rfl ?_
            refine V_iconst dX11_weighed_49 ?_
            refine V_il5 dX11_weighed_50 ?_
            refine V_il3n dX11_weighed_52 ?_
            refine V_isub dX11_weighed_53 ?_
            refine V_mmax ml_X11_304 sm_J9_max_7cf53 dX11_weighed_54 (by unfold ri; omega) (by unfold ri; omega) (by decide) (Nat.le_of_ble_eq_true rfl) (by decide) (by decide) ?_
            refine V_is8 dX11_weighed_57 (by decide) rfl ?_
            exact V_weak (by repeat (first | exact wk_n | refine wk_c (Or.inr rfl) ?_ | refine wk_c (Or.inl rfl) ?_)) (w_cweighed (b := b) hk hs hsk hr h5 hm hh c3 rw_ (fun ρ' f' g' q => ⟨rfl, q⟩) _ (if 1 < T 115 mN - n then T 115 mN - n else 1) (by split <;> omega) rfl (-1, 99999) (Or.inl ⟨rfl, rfl, rfl, rfl⟩) (by split <;> omega) _ _ _ (QS.rf hW hC hG hI (by split <;> omega)) (hgo _ rfl))
          · rw [c4] at b24; cases b24
  · have ea : aWeighed T ra sk m h n w = -1 := by
      unfold aWeighed
      rw [if_neg (fun z => c ?_)]
      simp only [Bool.and_eq_true] at z
      obtain ⟨⟨⟨z1, z2⟩, z3⟩, z4⟩ := z
      exact ⟨by rw [z1, z2]; rfl, by unfold zin at z3; simpa using z3, z4⟩
    rw [ea]
    refine V_al0n dX11_weighed_0 ?_
    refine V_il1n dX11_weighed_1 ?_
    refine V_il2n dX11_weighed_2 ?_
    refine V_callV (as := [_, _]) ml_X11_274 im_X11_canHold se_X11_canHold kk0 (by decide) (by decide) dX11_weighed_3 rfl rfl (by decide) (by decide) (Nat.le_of_ble_eq_true rfl) (by decide) (by decide) rfl (c_canHold hW hC rm rh) ?_
    refine pq4 ?_
    refine V_bt (tgt := 27) dX11_weighed_6 rfl (fun b6 => ?_) (fun b6 => ?_)
    · refine V_iconst dX11_weighed_27 ?_
      exact V_ireturn rfl ⟨rfl, QS.rf hW hC hG hI (by omega)⟩ dX11_weighed_28
    · refine V_il3n dX11_weighed_9 ?_
      refine V_if_lt (tgt := 27) dX11_weighed_10 rfl rn_ (fun b10 => ?_) (fun b10 => ?_)
      · refine V_iconst dX11_weighed_27 ?_
        exact V_ireturn rfl ⟨rfl, QS.rf hW hC hG hI (by omega)⟩ dX11_weighed_28
      · refine V_il3n dX11_weighed_13 ?_
        refine V_bipush dX11_weighed_14 rfl ?_
        refine V_icmp_gt (tgt := 27) dX11_weighed_16 rfl rn_ (by unfold ri; omega) (fun b16 => ?_) (fun b16 => ?_)
        · refine V_iconst dX11_weighed_27 ?_
          exact V_ireturn rfl ⟨rfl, QS.rf hW hC hG hI (by omega)⟩ dX11_weighed_28
        · refine V_il4 dX11_weighed_19 ?_
          refine V_callS (as := [_]) ml_X11_283 sm_X11_isPair dX11_weighed_21 rfl rfl (by decide) (by decide) (Nat.le_of_ble_eq_true rfl) (by decide) (by decide) rfl (c_isPair rw_) ?_
          refine pq4 ?_
          refine V_bf (tgt := 29) dX11_weighed_24 rfl (fun b24 => ?_) (fun b24 => ?_)
          · exact absurd ⟨b6, by omega, b24⟩ c
          · refine V_iconst dX11_weighed_27 ?_
            exact V_ireturn rfl ⟨rfl, QS.rf hW hC hG hI (by omega)⟩ dX11_weighed_28
end CWEIGHED

