section CQUICK
variable {T : TT} {b : Nat} {ρ : RT} {f : IT} {g : JT}
theorem Sf_0 {c : CC} {hc q : Int} : ∀ (n k j : Nat) (x : Int), Sf T c hc q n k j x → Sf T c hc 0 n k j x
  | 0, _, _, _, h => h
  | n + 1, k, j, x, h => by
    obtain ⟨p, x', h1, h2, h3⟩ := h
    exact ⟨p, x', ⟨h1.1, by unfold alw; omega, h1.2.2⟩, Sf_0 n (k + 1) _ x' h2, h3⟩
theorem vst_q0 (hk : TOK T) {c : CC} (hC : CR c) {h : Nat} (hh : h < nHo T) {q : Int} {st : Nat} (hst : st < 2501) (hq : (vst T c (T 117 h) q (nLa T) 0 st).1 ≠ 99999) : (vst T c (T 117 h) 0 (nLa T) 0 st).1 ≠ 99999 := fun e => by
  have h1 := ((vst_way hk hC hh (q := q) (nLa T) 0 st (by omega) hst).1 hq).1
  exact (vst_way hk hC hh (q := 0) (nLa T) 0 st (by omega) hst).2 e _ (Sf_0 _ _ _ _ h1)
theorem SKg.tr {ρ' ρ'' : RT} {f' f'' : IT} {g' g'' : JT} (h : SKg b ρ f g ρ' f' g') (h' : SKg b ρ' f' g' ρ'' f'' g'') : SKg b ρ f g ρ'' f'' g'' := ⟨fun a k q => (h'.1 a k q).trans (h.1 a k q), fun a k q1 q2 q3 q4 q5 => (h'.2.1 a k q1 q2 q3 q4 q5).trans (h.2.1 a k q1 q2 q3 q4 q5), fun a q1 q2 q3 q4 q5 q6 => (h'.2.2 a q1 q2 q3 q4 q5 q6).trans (h.2.2 a q1 q2 q3 q4 q5 q6)⟩
theorem c_quick (hW : TW T b ρ) (hC : CT T b f) {fl0 ra0 : Bool} (hG : GI T fl0 ra0 f g) (hI : SrI T ρ f g) (h5 : f 55 5 < 1000000) {sk : Int} {ra : Bool} (hs : f 0 5 = sk) (hsk : 0 ≤ sk ∧ sk ≤ 30) (hr : f 0 6 = bz ra) {m h p : Int} (rm : ri m) (rh : ri h) (rp : ri p) : C_X11_quick [.ref 0, .int (iz m), .int (iz h), .int (iz p)] ρ f g (fun r ρ' f' g' => r = some (.int (iz (aQuick T ra sk m h p))) ∧ QS T b 1 ρ f g ρ' f' g') := by
  have hk := hW.2.2.2.2.1
  have hρ := hW.1
  have hb := hW.2.1
  have h6 := hk.la
  have e12 : T 104 (12 + 0) = (nLa T : Int) := h6.1
  refine Ct.ofV (by decide) rfl (Nat.le_of_ble_eq_true rfl) ?_
  by_cases c : (okM T m && okH T h) = true ∧ zin p 1 9 = true ∧ nLa T ≠ 0
  · obtain ⟨c1, c3, c4⟩ := c
    have c2 := c1
    rw [Bool.and_eq_true] at c2
    obtain ⟨mN, rfl, hm⟩ := okM_at c2.1
    obtain ⟨hN, rfl, hh⟩ := okH_at c2.2
    have hp : 1 ≤ p ∧ p ≤ 9 := by unfold zin at c3; simpa using c3
    have hst := stM_lt hk hm
    have hcr := c0_cr hk hm (ra := ra) hsk
    have ea : aQuick T ra sk (mN : Int) (hN : Int) p = if (bst T ra sk mN hN 0).1 = 99999 ∨ (bst T ra sk mN hN p).1 = 99999 then -2 else (bst T ra sk mN hN p).1 - (bst T ra sk mN hN 0).1 := by
      unfold aQuick
      rw [c1, c3, show decide (nLa T ≠ 0) = true by simpa using c4, Bool.and_true, Bool.and_true, if_pos rfl, Int.toNat_natCast, Int.toNat_natCast]
    have hb0 := bst_rng hk hsk hm hh (ra := ra) 0
    have hbp := bst_rng hk hsk hm hh (ra := ra) p
    have e0 : skA T (c0 T ra sk mN) (T 117 hN) 0 (stM T mN) = if (bst T ra sk mN hN 0).1 = 99999 then -2 else (bst T ra sk mN hN 0).1 := rfl
    have ep : skA T (c0 T ra sk mN) (T 117 hN) p (stM T mN) = if (bst T ra sk mN hN p).1 = 99999 then -2 else (bst T ra sk mN hN p).1 := rfl
    have h0p : (bst T ra sk mN hN p).1 ≠ 99999 → (bst T ra sk mN hN 0).1 ≠ 99999 := fun z => vst_q0 hk hcr hh hst z
    rw [ea]
    refine V_al0n dX11_quick_0 ?_
    refine V_il1n dX11_quick_1 ?_
    refine V_il2n dX11_quick_2 ?_
    refine V_callV (as := [_, _]) ml_X11_274 im_X11_canHold se_X11_canHold kk0 (by decide) (by decide) dX11_quick_3 rfl rfl (by decide) (by decide) (Nat.le_of_ble_eq_true rfl) (by decide) (by decide) rfl (c_canHold hW hC rm rh) ?_
    refine pq4 ?_
    refine V_bt (tgt := 27) dX11_quick_6 rfl (fun b6 => ?_) (fun b6 => ?_)
    · rw [c1] at b6; cases b6
    · refine V_il3n dX11_quick_9 ?_
      refine V_callS (as := [_]) ml_X11_180 sm_X11_isPace dX11_quick_10 rfl rfl (by decide) (by decide) (Nat.le_of_ble_eq_true rfl) (by decide) (by decide) rfl (c_isPace rp) ?_
      refine pq4 ?_
      refine V_bt (tgt := 27) dX11_quick_13 rfl (fun b13 => ?_) (fun b13 => ?_)
      · rw [c3] at b13; cases b13
      · refine V_al0n dX11_quick_16 ?_
        refine V_getR kk0 (by decide) fl_X11_29 hW.2.2.1 dX11_quick_17 ?_
        refine V_iconst dX11_quick_20 ?_
        refine V_callV (as := [_]) ml_X11_271 im_X7_size se_X7_size (kb_0 hb) (by decide) (kl_0 hb) dX11_quick_21 rfl rfl (by decide) (by decide) (Nat.le_of_ble_eq_true rfl) (by decide) (by decide) rfl (c_size hρ hb hC (i := 0) (by omega)) ?_
        refine pq4 ?_
        refine V_if_ne (tgt := 29) dX11_quick_24 rfl (by unfold ri; omega) (fun b24 => ?_) (fun b24 => ?_)
        · refine V_al0n dX11_quick_29 ?_
          refine V_il1n dX11_quick_30 ?_
          refine V_callV (as := [_]) ml_X11_186 im_X11_makeReady se_X11_makeReady kk0 (by decide) (by decide) dX11_quick_31 rfl rfl (by decide) (by decide) (Nat.le_of_ble_eq_true rfl) (by decide) (by decide) rfl (c_makeReady hW hC hG h5 hm hs hsk hr) ?_
          rintro r31 ρ31 f31 g31 ⟨rfl, s31_0, s31_1, q1⟩
          obtain rfl := s31_0.symm
          obtain rfl := s31_1.symm
          have hC2 : CT T b f31 := hC.cg hb (fun a k h1 h2 => q1.1 a k (by omega) (by omega))
          have hsk2 := c_seek (c := c0 T ra sk mN) (q := 0) hW hC2 hcr q1.2.1 q1.ge hm hh rfl (by omega) (hI.lu q1)
          refine V_al0n dX11_quick_34 ?_
          refine V_getR kk0 (by decide) fl_X11_86 (fx_0_16 hρ) dX11_quick_35 ?_
          refine V_il1n dX11_quick_38 ?_
          refine V_il2n dX11_quick_39 ?_
          refine V_iconst dX11_quick_40 ?_
          refine V_callV (as := [_, _, _]) ml_X11_277 im_X4_seek se_X4_seek kk66 (by decide) (by decide) dX11_quick_41 rfl rfl (by decide) (by decide) (Nat.le_of_ble_eq_true rfl) (by decide) (by decide) rfl (hsk2) ?_
          rintro r41 ρ41 f41 g41 ⟨rfl, t1, t2, t3, t4, t5, t6⟩
          refine V_is4 dX11_quick_44 (by decide) rfl ?_
          have hρ2 := t1.1
          have hE2 : GE T (c0 T ra sk mN) f41 := q1.ge.cg (fun k => t6.2.1 55 k (by omega) (by omega) (by omega) (by omega) (by omega))
          have hsk3 := c_seek (c := c0 T ra sk mN) (q := p) t1 t2 hcr t3 hE2 hm hh rfl (by omega) t4
          refine V_al0n dX11_quick_46 ?_
          refine V_getR kk0 (by decide) fl_X11_86 (fx_0_16 hρ2) dX11_quick_47 ?_
          refine V_il1n dX11_quick_50 ?_
          refine V_il2n dX11_quick_51 ?_
          refine V_il3n dX11_quick_52 ?_
          refine V_callV (as := [_, _, _]) ml_X11_277 im_X4_seek se_X4_seek kk66 (by decide) (by decide) dX11_quick_53 rfl rfl (by decide) (by decide) (Nat.le_of_ble_eq_true rfl) (by decide) (by decide) rfl (hsk3) ?_
          rintro r53 ρ53 f53 g53 ⟨rfl, v1, v2, v3, v4, v5, v6⟩
          refine V_is5 dX11_quick_56 (by decide) rfl ?_
          refine V_il5 dX11_quick_58 ?_
          refine V_bipush dX11_quick_60 rfl ?_
          refine V_icmp_ne (tgt := 70) dX11_quick_62 rfl (by rw [ep]; unfold ri; split <;> omega) (by unfold ri; omega) (fun b62 => ?_) (fun b62 => ?_)
          · refine V_il5 dX11_quick_70 ?_
            refine V_il4 dX11_quick_72 ?_
            refine V_isub dX11_quick_74 ?_
            exact V_ireturn rfl ⟨by rw [e0, ep] at *; congr 3; (repeat' split) <;> (repeat' split at b62) <;> first | rfl | omega | (exfalso; omega), v1, v2, ⟨false, ra, v3⟩, v4, (q1.ag.tr (AG.sm (fun k => (t6.tr v6).2.1 55 k (by omega) (by omega) (by omega) (by omega) (by omega)))).wk (by omega), (t6.tr v6).1, fun a k z1 z2 z3 z4 z5 => ((t6.tr v6).2.1 a k (by omega) z2 z3 z4 z5).trans (q1.1 a k (by omega) (by omega)), (t6.tr v6).2.2⟩ dX11_quick_75
          · refine V_bipush dX11_quick_65 rfl ?_
            refine V_goto (tgt := 75) dX11_quick_67 rfl ?_
            exact V_ireturn rfl ⟨by rw [e0, ep] at *; congr 3; (repeat' split) <;> (repeat' split at b62) <;> first | rfl | omega | (exfalso; omega), v1, v2, ⟨false, ra, v3⟩, v4, (q1.ag.tr (AG.sm (fun k => (t6.tr v6).2.1 55 k (by omega) (by omega) (by omega) (by omega) (by omega)))).wk (by omega), (t6.tr v6).1, fun a k z1 z2 z3 z4 z5 => ((t6.tr v6).2.1 a k (by omega) z2 z3 z4 z5).trans (q1.1 a k (by omega) (by omega)), (t6.tr v6).2.2⟩ dX11_quick_75
        · exfalso; omega
  · have ea : aQuick T ra sk m h p = -1 := by
      unfold aQuick
      rw [if_neg (fun z => c ?_)]
      simp only [Bool.and_eq_true] at z
      obtain ⟨⟨⟨z1, z2⟩, z3⟩, z4⟩ := z
      exact ⟨by rw [z1, z2]; rfl, z3, by simpa using z4⟩
    rw [ea]
    refine V_al0n dX11_quick_0 ?_
    refine V_il1n dX11_quick_1 ?_
    refine V_il2n dX11_quick_2 ?_
    refine V_callV (as := [_, _]) ml_X11_274 im_X11_canHold se_X11_canHold kk0 (by decide) (by decide) dX11_quick_3 rfl rfl (by decide) (by decide) (Nat.le_of_ble_eq_true rfl) (by decide) (by decide) rfl (c_canHold hW hC rm rh) ?_
    refine pq4 ?_
    refine V_bt (tgt := 27) dX11_quick_6 rfl (fun b6 => ?_) (fun b6 => ?_)
    · refine V_iconst dX11_quick_27 ?_
      exact V_ireturn rfl ⟨rfl, QS.rf hW hC hG hI (by omega)⟩ dX11_quick_28
    · refine V_il3n dX11_quick_9 ?_
      refine V_callS (as := [_]) ml_X11_180 sm_X11_isPace dX11_quick_10 rfl rfl (by decide) (by decide) (Nat.le_of_ble_eq_true rfl) (by decide) (by decide) rfl (c_isPace rp) ?_
      refine pq4 ?_
      refine V_bt (tgt := 27) dX11_quick_13 rfl (fun b13 => ?_) (fun b13 => ?_)
      · refine V_iconst dX11_quick_27 ?_
        exact V_ireturn rfl ⟨rfl, QS.rf hW hC hG hI (by omega)⟩ dX11_quick_28
      · refine V_al0n dX11_quick_16 ?_
        refine V_getR kk0 (by decide) fl_X11_29 hW.2.2.1 dX11_quick_17 ?_
        refine V_iconst dX11_quick_20 ?_
        refine V_callV (as := [_]) ml_X11_271 im_X7_size se_X7_size (kb_0 hb) (by decide) (kl_0 hb) dX11_quick_21 rfl rfl (by decide) (by decide) (Nat.le_of_ble_eq_true rfl) (by decide) (by decide) rfl (c_size hρ hb hC (i := 0) (by omega)) ?_
        refine pq4 ?_
        refine V_if_ne (tgt := 29) dX11_quick_24 rfl (by unfold ri; omega) (fun b24 => ?_) (fun b24 => ?_)
        · exact absurd ⟨b6, b13, by omega⟩ c
        · refine V_iconst dX11_quick_27 ?_
          exact V_ireturn rfl ⟨rfl, QS.rf hW hC hG hI (by omega)⟩ dX11_quick_28
end CQUICK

