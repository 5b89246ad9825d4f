section CPACES3
variable {T : TT} {b : Nat} {ρ : RT} {f : IT} {g : JT}
theorem c_paces (hW : TW T b ρ) (hC : CT T b f) {fl0 ra0 : Bool} (hG : GI T fl0 ra0 f g) (hI : SrI T ρ f g) (h5 : f 55 5 < 1000000) {sk : Int} {ra : Bool} (hs : f 0 5 = sk) (hsk : 0 ≤ sk ∧ sk ≤ 30) (hr : f 0 6 = bz ra) {m h k : Int} (rm : ri m) (rh : ri h) (rk : ri k) : C_X11_paces [.ref 0, .int (iz m), .int (iz h), .int (iz k)] ρ f g (fun r ρ' f' g' => r = some (.int (iz (aPaces T ra sk m h k))) ∧ QS T b 1 ρ f g ρ' f' g') := by
  have hk := hW.2.2.2.2.1
  have hρ := hW.1
  have hb := hW.2.1
  have h6 := hk.la
  refine Ct.ofV (by decide) rfl (Nat.le_of_ble_eq_true rfl) ?_
  by_cases c : (okM T m && okH T h) = true ∧ okL T k = true
  · obtain ⟨c1, c3⟩ := c
    have c2 := c1
    rw [Bool.and_eq_true] at c2
    obtain ⟨mN, rfl, hm⟩ := okM_at c2.1
    obtain ⟨hN, rfl, hh⟩ := okH_at c2.2
    obtain ⟨kN, rfl, hl⟩ := okL_at c3
    have hst := stM_lt hk hm
    have hcr := c0_cr hk hm (ra := ra) hsk
    have ea : aPaces T ra sk (mN : Int) (hN : Int) (kN : Int) = if (bst T ra sk mN hN 0).1 = 99999 then -2 else (vst T (c0 T ra sk mN) (T 117 hN) 0 (nLa T - kN) kN (pth T (c0 T ra sk mN) (T 117 hN) 0 (stM T mN) kN)).2 := by
      unfold aPaces
      rw [c1, c3, Bool.and_true, if_pos rfl, Int.toNat_natCast, Int.toNat_natCast, Int.toNat_natCast]
      rfl
    have hb0 := bst_rng hk hsk hm hh (ra := ra) 0
    have e0 : skA T (c0 T ra sk mN) (T 117 hN) 0 (stM T mN) = if (bst T ra sk mN hN 0).1 = 99999 then -2 else (bst T ra sk mN hN 0).1 := rfl
    have hs2 : ri (skA T (c0 T ra sk mN) (T 117 hN) 0 (stM T mN)) := by rw [e0]; unfold ri; split <;> omega
    rw [ea]
    refine V_al0n dX11_paces_0 ?_
    refine V_il1n dX11_paces_1 ?_
    refine V_il2n dX11_paces_2 ?_
    refine V_callV (as := [_, _]) ml_X11_274 im_X11_canHold se_X11_canHold kk0 (by decide) (by decide) dX11_paces_3 rfl rfl (by decide) (by decide) (Nat.le_of_ble_eq_true rfl) (by decide) (by decide) rfl (c_canHold hW hC rm rh) ?_
    refine pq4 ?_
    refine V_bt (tgt := 21) dX11_paces_6 rfl (fun b6 => ?_) (fun b6 => ?_)
    · rw [c1] at b6; cases b6
    · refine V_al0n dX11_paces_9 ?_
      refine V_getR kk0 (by decide) fl_X11_29 hW.2.2.1 dX11_paces_10 ?_
      refine V_iconst dX11_paces_13 ?_
      refine V_il3n dX11_paces_14 ?_
      refine V_callV (as := [_, _]) ml_X11_160 im_X7_has se_X7_has (kb_0 hb) (by decide) (kl_0 hb) dX11_paces_15 rfl rfl (by decide) (by decide) (Nat.le_of_ble_eq_true rfl) (by decide) (by decide) rfl (c_hasL hW hC rk) ?_
      refine pq4 ?_
      refine V_bf (tgt := 23) dX11_paces_18 rfl (fun b18 => ?_) (fun b18 => ?_)
      · refine V_al0n dX11_paces_23 ?_
        refine V_il1n dX11_paces_24 ?_
        refine V_callV (as := [_]) ml_X11_186 im_X11_makeReady se_X11_makeReady kk0 (by decide) (by decide) dX11_paces_25 rfl rfl (by decide) (by decide) (Nat.le_of_ble_eq_true rfl) (by decide) (by decide) rfl (c_makeReady hW hC hG h5 hm hs hsk hr) ?_
        rintro r25 ρ25 f25 g25 ⟨rfl, s25_0, s25_1, q1⟩
        obtain rfl := s25_0.symm
        obtain rfl := s25_1.symm
        have hC2 : CT T b f25 := hC.cg hb (fun a k h1 h2 => q1.1 a k (by omega) (by omega))
        have hsk2 := c_seek (c := c0 T ra sk mN) (q := 0) hW hC2 hcr q1.2.1 q1.ge hm hh rfl (by omega) (hI.lu q1)
        refine V_al0n dX11_paces_28 ?_
        refine V_getR kk0 (by decide) fl_X11_86 (fx_0_16 hρ) dX11_paces_29 ?_
        refine V_il1n dX11_paces_32 ?_
        refine V_il2n dX11_paces_33 ?_
        refine V_iconst dX11_paces_34 ?_
        refine V_callV (as := [_, _, _]) ml_X11_277 im_X4_seek se_X4_seek kk66 (by decide) (by decide) dX11_paces_35 rfl rfl (by decide) (by decide) (Nat.le_of_ble_eq_true rfl) (by decide) (by decide) rfl (hsk2) ?_
        rintro r35 ρ35 f35 g35 ⟨rfl, t1, t2, t3, t4, t5, t6⟩
        have hρ2 := t1.1
        refine V_bipush dX11_paces_38 rfl ?_
        refine V_icmp_ne (tgt := 48) dX11_paces_40 rfl hs2 (by unfold ri; omega) (fun b40 => ?_) (fun b40 => ?_)
        · have hn0 : (bst T ra sk mN hN 0).1 ≠ 99999 := fun z => b40 (by rw [e0, if_pos z])
          refine V_al0n dX11_paces_48 ?_
          refine V_getR kk0 (by decide) fl_X11_86 (fx_0_16 hρ2) dX11_paces_49 ?_
          refine V_il3n dX11_paces_52 ?_
          refine V_callV (as := [_]) ml_X11_280 im_X4_paceIn se_X4_paceIn kk66 (by decide) (by decide) dX11_paces_53 rfl rfl (by decide) (by decide) (Nat.le_of_ble_eq_true rfl) (by decide) (by decide) rfl (c_paceIn t1 t2 hcr hh hst hn0 t5 hl) ?_
          refine pq4 ?_
          exact V_ireturn rfl ⟨by rw [e0] at b40; congr 3; (repeat' split) <;> (repeat' split at b40) <;> first | rfl | omega | (exfalso; omega), t1, t2, ⟨false, ra, t3⟩, t4, (q1.ag.tr (AG.sm (fun k => t6.2.1 55 k (by omega) (by omega) (by omega) (by omega) (by omega)))).wk (by omega), t6.1, fun a k z1 z2 z3 z4 z5 => (t6.2.1 a k (by omega) z2 z3 z4 z5).trans (q1.1 a k (by omega) (by omega)), t6.2.2⟩ dX11_paces_56
        · refine V_bipush dX11_paces_43 rfl ?_
          refine V_goto (tgt := 56) dX11_paces_45 rfl ?_
          exact V_ireturn rfl ⟨by rw [e0] at b40; congr 3; (repeat' split) <;> (repeat' split at b40) <;> first | rfl | omega | (exfalso; omega), t1, t2, ⟨false, ra, t3⟩, t4, (q1.ag.tr (AG.sm (fun k => t6.2.1 55 k (by omega) (by omega) (by omega) (by omega) (by omega)))).wk (by omega), t6.1, fun a k z1 z2 z3 z4 z5 => (t6.2.1 a k (by omega) z2 z3 z4 z5).trans (q1.1 a k (by omega) (by omega)), t6.2.2⟩ dX11_paces_56
      · rw [c3] at b18; cases b18
  · have ea : aPaces T ra sk m h k = -1 := by
      unfold aPaces
      rw [if_neg (fun z => c ?_)]
      rw [Bool.and_eq_true] at z
      exact z
    rw [ea]
    refine V_al0n dX11_paces_0 ?_
    refine V_il1n dX11_paces_1 ?_
    refine V_il2n dX11_paces_2 ?_
    refine V_callV (as := [_, _]) ml_X11_274 im_X11_canHold se_X11_canHold kk0 (by decide) (by decide) dX11_paces_3 rfl rfl (by decide) (by decide) (Nat.le_of_ble_eq_true rfl) (by decide) (by decide) rfl (c_canHold hW hC rm rh) ?_
    refine pq4 ?_
    refine V_bt (tgt := 21) dX11_paces_6 rfl (fun b6 => ?_) (fun b6 => ?_)
    · refine V_iconst dX11_paces_21 ?_
      exact V_ireturn rfl ⟨rfl, QS.rf hW hC hG hI (by omega)⟩ dX11_paces_22
    · refine V_al0n dX11_paces_9 ?_
      refine V_getR kk0 (by decide) fl_X11_29 hW.2.2.1 dX11_paces_10 ?_
      refine V_iconst dX11_paces_13 ?_
      refine V_il3n dX11_paces_14 ?_
      refine V_callV (as := [_, _]) ml_X11_160 im_X7_has se_X7_has (kb_0 hb) (by decide) (kl_0 hb) dX11_paces_15 rfl rfl (by decide) (by decide) (Nat.le_of_ble_eq_true rfl) (by decide) (by decide) rfl (c_hasL hW hC rk) ?_
      refine pq4 ?_
      refine V_bf (tgt := 23) dX11_paces_18 rfl (fun b18 => ?_) (fun b18 => ?_)
      · exact absurd ⟨b6, b18⟩ c
      · refine V_iconst dX11_paces_21 ?_
        exact V_ireturn rfl ⟨rfl, QS.rf hW hC hG hI (by omega)⟩ dX11_paces_22
end CPACES3

