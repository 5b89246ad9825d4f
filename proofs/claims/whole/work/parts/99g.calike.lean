section CALIKE
variable {T : TT} {b : Nat}
theorem QS.step {n : Int} {ρ0 ρ ρ' : RT} {f0 f f1 f' : IT} {g0 g g' : JT} {fl ra : Bool} {sk wt : Int} (hS : QS T b n ρ0 f0 g0 ρ f g) (q1 : LU T fl ra sk wt f g f1) (t1 : TW T b ρ') (t2 : CT T b f') (t3 : GI T fl ra f' g') (t4 : SrI T ρ' f' g') (t6 : SKg b ρ f1 g ρ' f' g') : QS T b (n + 1) ρ0 f0 g0 ρ' f' g' := by
  obtain ⟨-, -, -, -, s5, s6, s7, s8⟩ := hS
  exact ⟨t1, t2, ⟨fl, ra, t3⟩, t4, (s5.tr (q1.ag.tr (AG.sm (fun k => t6.2.1 55 k (by omega) (by omega) (by omega) (by omega) (by omega))))).wk (by omega), fun a k z => (t6.1 a k z).trans (s6 a k z), fun a k z1 z2 z3 z4 z5 => ((t6.2.1 a k (by omega) z2 z3 z4 z5).trans (q1.1 a k (by omega) (by omega))).trans (s7 a k z1 z2 z3 z4 z5), fun a z1 z2 z3 z4 z5 z6 => (t6.2.2 a z1 z2 z3 z4 z5 z6).trans (s8 a z1 z2 z3 z4 z5 z6)⟩
theorem w_calike {Q : QT} {ρ0 : RT} {f0 : IT} {g0 : JT} (hk : TOK T) {ra : Bool} (hr0 : f0 0 6 = bz ra) (h50 : f0 55 5 < 999900) {m h : Nat} (hm : m < nMe T) (hh : h < nHo T) {most R : Int} (hmo : 0 ≤ most ∧ most ≤ 9999)
    (hQ : ∀ (ρ : RT) (f : IT) (g : JT), QS T b 31 ρ0 f0 g0 ρ f g → Q (some (.int (iz R))) ρ f g)
    (n : Nat) (hn : n ≤ 31) (e : Int) (he : e = (n : Int) - 1) (ρ : RT) (f : IT) (g : JT) (hS : QS T b (31 - (n : Int)) ρ0 f0 g0 ρ f g) (hR : alR T ra m h most n = R) :
    V_X11_alike Q 26 [.ref 0, .int (iz (m : Int)), .int (iz (h : Int)), .int (iz most), .int (iz e), .null] [] ρ f g := by
  have hS0 := hS
  obtain ⟨hW, hC, ⟨fl0, ra0, hG⟩, hI, s5, s6, s7, s8⟩ := hS
  have hρ := hW.1
  have hb := hW.2.1
  have h5' := hk.me
  have hma := hk.man hm
  have hr : f 0 6 = bz ra := (s7 0 6 (by omega) (by omega) (by omega) (by omega) (by omega)).trans hr0
  have h5 : f 55 5 < 1000000 := by have := s5.2; omega
  cases n with
  | zero =>
    simp only [alR] at hR
    subst hR
    refine V_il4 dX11_alike_26 ?_
    refine V_if_lt (tgt := 89) dX11_alike_28 rfl (by unfold ri; omega) (fun b28 => ?_) (fun b28 => ?_)
    · refine V_bipush dX11_alike_89 rfl ?_
      exact V_ireturn rfl (hQ ρ f g hS0) dX11_alike_91
    · exfalso; omega
  | succ n' =>
    have ee : e = (n' : Int) := by omega
    subst ee
    rw [alR] at hR
    have hcr : CR (false, ra, (n' : Int), T 115 m, T 113 m) := by unfold CR; simp only; omega
    have br := bsc_rng hk hcr hm hh
    have t := tat1 hk (j := 2) hm (by omega)
    simp [tcl] at t
    have hat := c_at (f := f) (g := g) hW.1 hW.2.1 hC hk (i := 1) (by omega) (k := (m : Int)) (j := 2) (by unfold ri; omega) (by unfold ri; omega)
    rw [t] at hat
    have e0 : skA T (false, ra, (n' : Int), T 115 m, T 113 m) (T 117 h) 0 (stM T m) = if bsc T (false, ra, (n' : Int), T 115 m, T 113 m) m h = 99999 then -2 else bsc T (false, ra, (n' : Int), T 115 m, T 113 m) m h := rfl
    have rS : ri (skA T (false, ra, (n' : Int), T 115 m, T 113 m) (T 117 h) 0 (stM T m)) := by rw [e0]; unfold ri; split <;> omega
    refine V_il4 dX11_alike_26 ?_
    refine V_if_lt (tgt := 89) dX11_alike_28 rfl (by unfold ri; omega) (fun b28 => ?_) (fun b28 => ?_)
    · exfalso; omega
    · refine V_al0n dX11_alike_31 ?_
      refine V_getR kk0 (by decide) fl_X11_48 (fx_0_7 hρ) dX11_alike_32 ?_
      refine V_al0n dX11_alike_35 ?_
      refine V_getR kk0 (by decide) fl_X11_29 hW.2.2.1 dX11_alike_36 ?_
      refine V_iconst dX11_alike_39 ?_
      refine V_il1n dX11_alike_40 ?_
      refine V_iconst dX11_alike_41 ?_
      refine V_callV (as := [_, _, _]) ml_X11_176 im_X7_at se_X7_at (kb_0 hb) (by decide) (kl_0 hb) dX11_alike_42 rfl rfl (by decide) (by decide) (Nat.le_of_ble_eq_true rfl) (by decide) (by decide) rfl (hat) ?_
      refine pq4 ?_
      refine V_il4 dX11_alike_45 ?_
      refine V_al0n dX11_alike_47 ?_
      refine V_getZ kk0 (by decide) fl_X11_39 hr dX11_alike_48 ?_
      refine V_iconst dX11_alike_51 ?_
      refine V_callV (as := [_, _, _, _]) ml_X11_313 im_X0_lieUnder se_X0_lieUnder kk55 (by decide) (by decide) dX11_alike_52 rfl rfl (by decide) (by decide) (Nat.le_of_ble_eq_true rfl) (by decide) (by decide) rfl (c_lieUnder (fl := false) hW.1 hW.2.2.2.1 hW.2.1 hC hk hG h5 (by omega) (by omega)) ?_
      rintro r52 ρ52 f52 g52 ⟨rfl, s52_0, s52_1, q1⟩
      obtain rfl := s52_0.symm
      obtain rfl := s52_1.symm
      have hC2 : CT T b f52 := hC.cg hb (fun a k h1 h2 => q1.1 a k (by omega) (by omega))
      have hsk2 := c_seek (c := (false, ra, (n' : Int), T 115 m, T 113 m)) (q := 0) hW hC2 hcr q1.2.1 q1.ge hm hh rfl (by omega) (hI.lu q1)
      refine V_al0n dX11_alike_55 ?_
      refine V_getR kk0 (by decide) fl_X11_86 (fx_0_16 hρ) dX11_alike_56 ?_
      refine V_il1n dX11_alike_59 ?_
      refine V_il2n dX11_alike_60 ?_
      refine V_iconst dX11_alike_61 ?_
      refine V_callV (as := [_, _, _]) ml_X11_277 im_X4_seek se_X4_seek kk66 (by decide) (by decide) dX11_alike_62 rfl rfl (by decide) (by decide) (Nat.le_of_ble_eq_true rfl) (by decide) (by decide) rfl (hsk2) ?_
      rintro r62 ρ62 f62 g62 ⟨rfl, t1, t2, t3, t4, t5, t6⟩
      have hS2 := QS.step hS0 q1 t1 t2 t3 t4 t6
      refine V_is5 dX11_alike_65 (by decide) rfl ?_
      refine V_il5 dX11_alike_67 ?_
      refine V_bipush dX11_alike_69 rfl ?_
      refine V_icmp_eq (tgt := 83) dX11_alike_71 rfl rS (by unfold ri; omega) (fun b71 => ?_) (fun b71 => ?_)
      · refine V_inc4 dX11_alike_83 (by decide) rfl ?_
        refine V_goto (tgt := 26) dX11_alike_86 rfl ?_
        (rw [if_neg (by split at e0 <;> omega)] at hR); exact V_weak (by repeat (first | exact wk_n | refine wk_c (Or.inr rfl) ?_ | refine wk_c (Or.inl rfl) ?_)) (w_calike hk hr0 h50 hm hh hmo hQ n' (by omega) _ (by omega) _ _ _ ⟨t1, t2, ⟨false, ra, t3⟩, t4, hS2.2.2.2.2.1.wk (by omega), hS2.2.2.2.2.2⟩ hR)
      · refine V_il5 dX11_alike_74 ?_
        refine V_il3n dX11_alike_76 ?_
        refine V_icmp_gt (tgt := 83) dX11_alike_77 rfl rS (by unfold ri; omega) (fun b77 => ?_) (fun b77 => ?_)
        · refine V_inc4 dX11_alike_83 (by decide) rfl ?_
          refine V_goto (tgt := 26) dX11_alike_86 rfl ?_
          (rw [if_neg (by split at e0 <;> omega)] at hR); exact V_weak (by repeat (first | exact wk_n | refine wk_c (Or.inr rfl) ?_ | refine wk_c (Or.inl rfl) ?_)) (w_calike hk hr0 h50 hm hh hmo hQ n' (by omega) _ (by omega) _ _ _ ⟨t1, t2, ⟨false, ra, t3⟩, t4, hS2.2.2.2.2.1.wk (by omega), hS2.2.2.2.2.2⟩ hR)
        · refine V_il4 dX11_alike_80 ?_
          exact V_ireturn rfl (by rw [if_pos (by split at e0 <;> omega)] at hR; subst hR; exact hQ _ _ _ ⟨t1, t2, ⟨false, ra, t3⟩, t4, hS2.2.2.2.2.1.wk (by omega), hS2.2.2.2.2.2⟩) dX11_alike_82
termination_by n
end CALIKE

