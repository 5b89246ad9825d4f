section CALIKE2
variable {T : TT} {b : Nat} {ρ : RT} {f : IT} {g : JT}
theorem c_alike (hW : TW T b ρ) (hC : CT T b f) {fl0 ra0 : Bool} (hG : GI T fl0 ra0 f g) (hI : SrI T ρ f g) (h5 : f 55 5 < 999900) {ra : Bool} (hr : f 0 6 = bz ra) {m h w : Int} (rm : ri m) (rh : ri h) (rw_ : ri w) : C_X11_alike [.ref 0, .int (iz m), .int (iz h), .int (iz w)] ρ f g (fun r ρ' f' g' => r = some (.int (iz (aAlike T ra m h w))) ∧ QS T b 31 ρ f g ρ' f' g') := by
  have hk := hW.2.2.2.2.1
  have hρ := hW.1
  have hb := hW.2.1
  refine Ct.ofV (by decide) rfl (Nat.le_of_ble_eq_true rfl) ?_
  by_cases c : (okM T m && okH T h) = true ∧ (0 ≤ w ∧ w ≤ 9999)
  · obtain ⟨c1, c3⟩ := c
    have c2 := c1
    rw [Bool.and_eq_true] at c2
    obtain ⟨mN, rfl, hm⟩ := okM_at c2.1
    obtain ⟨hN, rfl, hh⟩ := okH_at c2.2
    have ea : aAlike T ra (mN : Int) (hN : Int) w = alR T ra mN hN w 31 := by
      unfold aAlike
      rw [c1, show zin w 0 9999 = true by unfold zin; simpa using c3, Bool.and_true, if_pos rfl, Int.toNat_natCast, Int.toNat_natCast]
    rw [ea]
    refine V_al0n dX11_alike_0 ?_
    refine V_il1n dX11_alike_1 ?_
    refine V_il2n dX11_alike_2 ?_
    refine V_callV (as := [_, _]) ml_X11_274 im_X11_canHold se_X11_canHold kk0 (by decide) (by decide) dX11_alike_3 rfl rfl (by decide) (by decide) (Nat.le_of_ble_eq_true rfl) (by decide) (by decide) rfl (c_canHold hW hC rm rh) ?_
    refine pq4 ?_
    refine V_bt (tgt := 20) dX11_alike_6 rfl (fun b6 => ?_) (fun b6 => ?_)
    · rw [c1] at b6; cases b6
    · refine V_il3n dX11_alike_9 ?_
      refine V_if_lt (tgt := 20) dX11_alike_10 rfl rw_ (fun b10 => ?_) (fun b10 => ?_)
      · exfalso; omega
      · refine V_il3n dX11_alike_13 ?_
        refine V_sipush dX11_alike_14 rfl ?_
        refine V_icmp_le (tgt := 22) dX11_alike_17 rfl rw_ (by unfold ri; omega) (fun b17 => ?_) (fun b17 => ?_)
        · refine V_bipush dX11_alike_22 rfl ?_
          refine V_is4 dX11_alike_24 (by decide) rfl ?_
          exact V_weak (by repeat (first | exact wk_n | refine wk_c (Or.inr rfl) ?_ | refine wk_c (Or.inl rfl) ?_)) (w_calike (b := b) hk hr h5 hm hh c3 (fun ρ' f' g' q => ⟨rfl, q⟩) 31 (by omega) _ (by omega) _ _ _ (QS.rf hW hC hG hI (by omega)) rfl)
        · exfalso; omega
  · have ea : aAlike T ra m h w = -1 := by
      unfold aAlike
      rw [if_neg (fun z => c ?_)]
      rw [Bool.and_eq_true] at z
      exact ⟨z.1, by have := z.2; unfold zin at this; simpa using this⟩
    rw [ea]
    refine V_al0n dX11_alike_0 ?_
    refine V_il1n dX11_alike_1 ?_
    refine V_il2n dX11_alike_2 ?_
    refine V_callV (as := [_, _]) ml_X11_274 im_X11_canHold se_X11_canHold kk0 (by decide) (by decide) dX11_alike_3 rfl rfl (by decide) (by decide) (Nat.le_of_ble_eq_true rfl) (by decide) (by decide) rfl (c_canHold hW hC rm rh) ?_
    refine pq4 ?_
    refine V_bt (tgt := 20) dX11_alike_6 rfl (fun b6 => ?_) (fun b6 => ?_)
    · refine V_iconst dX11_alike_20 ?_
      exact V_ireturn rfl ⟨rfl, QS.rf hW hC hG hI (by omega)⟩ dX11_alike_21
    · refine V_il3n dX11_alike_9 ?_
      refine V_if_lt (tgt := 20) dX11_alike_10 rfl rw_ (fun b10 => ?_) (fun b10 => ?_)
      · refine V_iconst dX11_alike_20 ?_
        exact V_ireturn rfl ⟨rfl, QS.rf hW hC hG hI (by omega)⟩ dX11_alike_21
      · refine V_il3n dX11_alike_13 ?_
        refine V_sipush dX11_alike_14 rfl ?_
        refine V_icmp_le (tgt := 22) dX11_alike_17 rfl rw_ (by unfold ri; omega) (fun b17 => ?_) (fun b17 => ?_)
        · exact absurd ⟨b6, by omega⟩ c
        · refine V_iconst dX11_alike_20 ?_
          exact V_ireturn rfl ⟨rfl, QS.rf hW hC hG hI (by omega)⟩ dX11_alike_21
end CALIKE2

