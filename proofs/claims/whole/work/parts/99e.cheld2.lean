section CHELD2
variable {T : TT} {b : Nat} {ρ : RT} {f : IT} {g : JT}
theorem c_held (hW : TW T b ρ) (hC : CT T b f) {fl0 ra0 : Bool} (hG : GI T fl0 ra0 f g) (hI : SrI T ρ f g) (h5 : f 55 5 < 1000000) {sk : Int} {ra : Bool} (hs : f 0 5 = sk) (hsk : 0 ≤ sk ∧ sk ≤ 30) (hr : f 0 6 = bz ra) {m w : Int} (rm : ri m) (rw_ : ri w) : C_X11_held [.ref 0, .int (iz m), .int (iz w)] ρ f g (fun r ρ' f' g' => r = some (.int (iz (aHeld T ra sk m w))) ∧ QS T b 1 ρ f g ρ' f' g') := by
  have hk := hW.2.2.2.2.1
  have hρ := hW.1
  have hb := hW.2.1
  have h3 := hk.ho
  have e14 : T 104 (12 + 2) = (nHo T : Int) := h3.1
  refine Ct.ofV (by decide) rfl (Nat.le_of_ble_eq_true rfl) ?_
  by_cases c : okM T m = true ∧ zin w 0 1 = true ∧ nHo T ≠ 0
  · obtain ⟨c1, c3, c4⟩ := c
    obtain ⟨mN, rfl, hm⟩ := okM_at c1
    have ea : aHeld T ra sk (mN : Int) w = if (hdR T ra sk mN (nHo T) 0 (-1, 99999)).1 < 0 then -2 else if w = 0 then (hdR T ra sk mN (nHo T) 0 (-1, 99999)).1 else (hdR T ra sk mN (nHo T) 0 (-1, 99999)).2 := by
      unfold aHeld
      rw [c1, c3, show decide (nHo T ≠ 0) = true by simpa using c4, Bool.and_true, Bool.and_true, if_pos rfl, Int.toNat_natCast]
    rw [ea]
    refine V_al0n dX11_held_0 ?_
    refine V_getR kk0 (by decide) fl_X11_29 hW.2.2.1 dX11_held_1 ?_
    refine V_iconst dX11_held_4 ?_
    refine V_il1n dX11_held_5 ?_
    refine V_callV (as := [_, _]) ml_X11_160 im_X7_has se_X7_has (kb_0 hb) (by decide) (kl_0 hb) dX11_held_6 rfl rfl (by decide) (by decide) (Nat.le_of_ble_eq_true rfl) (by decide) (by decide) rfl (c_hasM hW hC rm) ?_
    refine pq4 ?_
    refine V_bt (tgt := 30) dX11_held_9 rfl (fun b9 => ?_) (fun b9 => ?_)
    · rw [c1] at b9; cases b9
    · refine V_il2n dX11_held_12 ?_
      refine V_callS (as := [_]) ml_X11_283 sm_X11_isPair dX11_held_13 rfl rfl (by decide) (by decide) (Nat.le_of_ble_eq_true rfl) (by decide) (by decide) rfl (c_isPair rw_) ?_
      refine pq4 ?_
      refine V_bt (tgt := 30) dX11_held_16 rfl (fun b16 => ?_) (fun b16 => ?_)
      · rw [c3] at b16; cases b16
      · refine V_al0n dX11_held_19 ?_
        refine V_getR kk0 (by decide) fl_X11_29 hW.2.2.1 dX11_held_20 ?_
        refine V_iconst dX11_held_23 ?_
        refine V_callV (as := [_]) ml_X11_271 im_X7_size se_X7_size (kb_0 hb) (by decide) (kl_0 hb) dX11_held_24 rfl rfl (by decide) (by decide) (Nat.le_of_ble_eq_true rfl) (by decide) (by decide) rfl (c_size hρ hb hC (i := 2) (by omega)) ?_
        refine pq4 ?_
        refine V_if_ne (tgt := 32) dX11_held_27 rfl (by unfold ri; omega) (fun b27 => ?_) (fun b27 => ?_)
        · refine V_al0n dX11_held_32 ?_
          refine V_il1n dX11_held_33 ?_
          refine V_callV (as := [_]) ml_X11_186 im_X11_makeReady se_X11_makeReady kk0 (by decide) (by decide) dX11_held_34 rfl rfl (by decide) (by decide) (Nat.le_of_ble_eq_true rfl) (by decide) (by decide) rfl (c_makeReady hW hC hG h5 hm hs hsk hr) ?_
          rintro r34 ρ34 f34 g34 ⟨rfl, s34_0, s34_1, q1⟩
          obtain rfl := s34_0.symm
          obtain rfl := s34_1.symm
          have hC2 : CT T b f34 := hC.cg hb (fun a k h1 h2 => q1.1 a k (by omega) (by omega))
          refine V_bipush dX11_held_37 rfl ?_
          refine V_is3n dX11_held_39 (by decide) rfl ?_
          refine V_bipush dX11_held_40 rfl ?_
          refine V_is4 dX11_held_42 (by decide) rfl ?_
          refine V_iconst dX11_held_44 ?_
          refine V_is5 dX11_held_45 (by decide) rfl ?_
          exact V_weak (by repeat (first | exact wk_n | refine wk_c (Or.inr rfl) ?_ | refine wk_c (Or.inl rfl) ?_)) (w_cheld (b := b) hk hsk hm rw_ (fun ρ' f' g' t1 t2 t3 t4 t6 => ⟨rfl, t1, t2, ⟨false, ra, t3⟩, t4, (q1.ag.tr (AG.sm (fun k => t6.2.1 55 k (by omega) (by omega) (by omega) (by omega) (by omega)))).wk (by omega), t6.1, fun a k z1 z2 z3 z4 z5 => (t6.2.1 a k (by omega) z2 z3 z4 z5).trans (q1.1 a k (by omega) (by omega)), t6.2.2⟩) 0 (by omega) (-1, 99999) (Or.inl ⟨rfl, rfl, rfl, rfl⟩) _ _ _ hW hC2 q1.2.1 q1.ge (hI.lu q1) ⟨fun _ _ _ => rfl, fun _ _ _ _ _ _ _ => rfl, fun _ _ _ _ _ _ _ => rfl⟩ rfl)
        · exfalso; omega
  · have ea : aHeld T ra sk m w = -1 := by
      unfold aHeld
      rw [if_neg (fun z => c ?_)]
      simp only [Bool.and_eq_true] at z
      obtain ⟨⟨z1, z2⟩, z3⟩ := z
      exact ⟨z1, z3, by simpa using z2⟩
    rw [ea]
    refine V_al0n dX11_held_0 ?_
    refine V_getR kk0 (by decide) fl_X11_29 hW.2.2.1 dX11_held_1 ?_
    refine V_iconst dX11_held_4 ?_
    refine V_il1n dX11_held_5 ?_
    refine V_callV (as := [_, _]) ml_X11_160 im_X7_has se_X7_has (kb_0 hb) (by decide) (kl_0 hb) dX11_held_6 rfl rfl (by decide) (by decide) (Nat.le_of_ble_eq_true rfl) (by decide) (by decide) rfl (c_hasM hW hC rm) ?_
    refine pq4 ?_
    refine V_bt (tgt := 30) dX11_held_9 rfl (fun b9 => ?_) (fun b9 => ?_)
    · refine V_iconst dX11_held_30 ?_
      exact V_ireturn rfl ⟨rfl, QS.rf hW hC hG hI (by omega)⟩ dX11_held_31
    · refine V_il2n dX11_held_12 ?_
      refine V_callS (as := [_]) ml_X11_283 sm_X11_isPair dX11_held_13 rfl rfl (by decide) (by decide) (Nat.le_of_ble_eq_true rfl) (by decide) (by decide) rfl (c_isPair rw_) ?_
      refine pq4 ?_
      refine V_bt (tgt := 30) dX11_held_16 rfl (fun b16 => ?_) (fun b16 => ?_)
      · refine V_iconst dX11_held_30 ?_
        exact V_ireturn rfl ⟨rfl, QS.rf hW hC hG hI (by omega)⟩ dX11_held_31
      · refine V_al0n dX11_held_19 ?_
        refine V_getR kk0 (by decide) fl_X11_29 hW.2.2.1 dX11_held_20 ?_
        refine V_iconst dX11_held_23 ?_
        refine V_callV (as := [_]) ml_X11_271 im_X7_size se_X7_size (kb_0 hb) (by decide) (kl_0 hb) dX11_held_24 rfl rfl (by decide) (by decide) (Nat.le_of_ble_eq_true rfl) (by decide) (by decide) rfl (c_size hρ hb hC (i := 2) (by omega)) ?_
        refine pq4 ?_
        refine V_if_ne (tgt := 32) dX11_held_27 rfl (by unfold ri; omega) (fun b27 => ?_) (fun b27 => ?_)
        · exact absurd ⟨b9, b16, by omega⟩ c
        · refine V_iconst dX11_held_30 ?_
          exact V_ireturn rfl ⟨rfl, QS.rf hW hC hG hI (by omega)⟩ dX11_held_31
end CHELD2

