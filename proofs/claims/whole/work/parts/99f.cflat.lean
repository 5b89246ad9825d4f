section CFLAT
variable {T : TT} {b : Nat} {ρ : RT} {f : IT} {g : JT}
theorem c_flat (hW : TW T b ρ) (hC : CT T b f) {fl0 ra0 : Bool} (hG : GI T fl0 ra0 f g) (hI : SrI T ρ f g) (h5 : f 55 5 < 1000000) {sk : Int} {ra : Bool} (hs : f 0 5 = sk) (hsk : 0 ≤ sk ∧ sk ≤ 30) (hr : f 0 6 = bz ra) {m h : Int} (rm : ri m) (rh : ri h) : C_X11_flat [.ref 0, .int (iz m), .int (iz h)] ρ f g (fun r ρ' f' g' => r = some (.int (iz (aFlat T ra sk m h))) ∧ QS T b 1 ρ f g ρ' f' g') := by
  have hk := hW.2.2.2.2.1
  have hρ := hW.1
  have hb := hW.2.1
  refine Ct.ofV (by decide) rfl (Nat.le_of_ble_eq_true rfl) ?_
  unfold aFlat
  cases c : (okM T m && okH T h) with
  | false =>
    rw [if_neg Bool.false_ne_true]
    refine V_al0n dX11_flat_0 ?_
    refine V_il1n dX11_flat_1 ?_
    refine V_il2n dX11_flat_2 ?_
    refine V_callV (as := [_, _]) ml_X11_274 im_X11_canHold se_X11_canHold kk0 (by decide) (by decide) dX11_flat_3 rfl rfl (by decide) (by decide) (Nat.le_of_ble_eq_true rfl) (by decide) (by decide) rfl (c_canHold hW hC rm rh) ?_
    refine pq4 ?_
    refine V_bf (tgt := 11) dX11_flat_6 rfl (fun b6 => ?_) (fun b6 => ?_)
    · rw [c] at b6; cases b6
    · refine V_iconst dX11_flat_9 ?_
      exact V_ireturn rfl ⟨rfl, QS.rf hW hC hG hI (by omega)⟩ dX11_flat_10
  | true =>
    rw [if_pos rfl]
    have c2 := c
    rw [Bool.and_eq_true] at c2
    obtain ⟨mN, rfl, hm⟩ := okM_at c2.1
    obtain ⟨hN, rfl, hh⟩ := okH_at c2.2
    rw [Int.toNat_natCast, Int.toNat_natCast]
    have t := tat1 hk (j := 2) hm (by omega)
    simp [tcl] at t
    have hma := hk.man hm
    have h5' := hk.me
    have hat := c_at (f := f) (g := g) hW.1 hW.2.1 hC hk (i := 1) (by omega) (k := (mN : Int)) (j := 2) (by unfold ri; omega) (by unfold ri; omega)
    rw [t] at hat
    have hcr : CR (true, ra, sk, T 115 mN, T 113 mN) := c0_cr hk hm (ra := ra) hsk
    refine V_al0n dX11_flat_0 ?_
    refine V_il1n dX11_flat_1 ?_
    refine V_il2n dX11_flat_2 ?_
    refine V_callV (as := [_, _]) ml_X11_274 im_X11_canHold se_X11_canHold kk0 (by decide) (by decide) dX11_flat_3 rfl rfl (by decide) (by decide) (Nat.le_of_ble_eq_true rfl) (by decide) (by decide) rfl (c_canHold hW hC rm rh) ?_
    refine pq4 ?_
    refine V_bf (tgt := 11) dX11_flat_6 rfl (fun b6 => ?_) (fun b6 => ?_)
    · refine V_al0n dX11_flat_11 ?_
      refine V_getR kk0 (by decide) fl_X11_48 (fx_0_7 hρ) dX11_flat_12 ?_
      refine V_al0n dX11_flat_15 ?_
      refine V_getR kk0 (by decide) fl_X11_29 hW.2.2.1 dX11_flat_16 ?_
      refine V_iconst dX11_flat_19 ?_
      refine V_il1n dX11_flat_20 ?_
      refine V_iconst dX11_flat_21 ?_
      refine V_callV (as := [_, _, _]) ml_X11_176 im_X7_at se_X7_at (kb_0 hb) (by decide) (kl_0 hb) dX11_flat_22 rfl rfl (by decide) (by decide) (Nat.le_of_ble_eq_true rfl) (by decide) (by decide) rfl (hat) ?_
      refine pq4 ?_
      refine V_al0n dX11_flat_25 ?_
      refine V_getI kk0 (by decide) fl_X11_36 hs dX11_flat_26 ?_
      refine V_al0n dX11_flat_29 ?_
      refine V_getZ kk0 (by decide) fl_X11_39 hr dX11_flat_30 ?_
      refine V_iconst dX11_flat_33 ?_
      refine V_callV (as := [_, _, _, _]) ml_X11_313 im_X0_lieUnder se_X0_lieUnder kk55 (by decide) (by decide) dX11_flat_34 rfl rfl (by decide) (by decide) (Nat.le_of_ble_eq_true rfl) (by decide) (by decide) rfl (c_lieUnder (fl := true) hW.1 hW.2.2.2.1 hW.2.1 hC hk hG h5 (by omega) hsk) ?_
      rintro r34 ρ34 f34 g34 ⟨rfl, s34_0, s34_1, q1⟩
      obtain rfl := s34_0.symm
      obtain rfl := s34_1.symm
      have hC2 : CT T b f34 := hC.cg hb (fun a k h1 h2 => q1.1 a k (by omega) (by omega))
      have hsk2 := c_seek (c := (true, ra, sk, T 115 mN, T 113 mN)) (q := 0) hW hC2 hcr q1.2.1 q1.ge hm hh rfl (by omega) (hI.lu q1)
      refine V_al0n dX11_flat_37 ?_
      refine V_getR kk0 (by decide) fl_X11_86 (fx_0_16 hρ) dX11_flat_38 ?_
      refine V_il1n dX11_flat_41 ?_
      refine V_il2n dX11_flat_42 ?_
      refine V_iconst dX11_flat_43 ?_
      refine V_callV (as := [_, _, _]) ml_X11_277 im_X4_seek se_X4_seek kk66 (by decide) (by decide) dX11_flat_44 rfl rfl (by decide) (by decide) (Nat.le_of_ble_eq_true rfl) (by decide) (by decide) rfl (hsk2) ?_
      rintro r44 ρ44 f44 g44 ⟨rfl, t1, t2, t3, t4, t5, t6, t7, t8⟩
      exact V_ireturn rfl ⟨rfl, t1, t2, ⟨true, ra, t3⟩, t4, (q1.ag.tr (AG.sm (fun k => t7 55 k (by omega) (by omega) (by omega) (by omega) (by omega)))).wk (by omega), t6, fun a k z1 z2 z3 z4 z5 => (t7 a k (by omega) z2 z3 z4 z5).trans (q1.1 a k (by omega) (by omega)), t8⟩ dX11_flat_47
    · rw [c] at b6; cases b6
end CFLAT

