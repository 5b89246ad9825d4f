/-! signs bound, a sum read -/
def bndR (le : Int) : Nat → IT → IT
  | 0, f => f
  | n + 1, f => if 0 < f 104 58 ∧ le ≤ rnk (f 133 (f 104 58 - 1).toNat) then bndR le n (bnd1 f) else f
def bndF (le : Int) (f : IT) : IT := bndR le (f 104 58).toNat f
theorem w_bind {Q : QT} {ρ : RT} {g : JT} (hρ : Fx ρ) {lo : Nat} {le : Int} (hle : 1 ≤ le ∧ le ≤ 6) {R : IT} (hQ : Q none ρ R g) (n : Nat) (f : IT) (H : SJ lo 1 0 f) (hn : (f 104 58).toNat = n) (hR : R = bndR le n f) :
    V_X12_bind Q 0 [.ref 104, .int (iz le), .null, .null, .null] [] ρ f g := by
  have hr := H.rng (by omega)
  by_cases e : f 104 58 = 0
  · have en : n = 0 := by omega
    subst en
    simp only [bndR] at hR
    subst hR
    refine V_al0n dX12_bind_0 ?_
    refine V_getI kk104 (by decide) fl_X12_343 rfl dX12_bind_1 ?_
    refine V_if_le (tgt := 76) dX12_bind_4 rfl (by unfold ri; omega) (fun b4 => ?_) (fun b4 => ?_)
    · exact V_return rfl hQ dX12_bind_76
    · exfalso; omega
  · obtain ⟨w, rfl⟩ : ∃ w, n = w + 1 := ⟨n - 1, by omega⟩
    have ew : (f 104 58 - 1).toNat = w := by omega
    have ew2 : f 104 58 = (w : Int) + 1 := by omega
    have hk := H.2.2.2.2.1 w (by omega)
    have hrr := rnk_rng (f 133 w)
    by_cases e2 : le ≤ rnk (f 133 w)
    · have hk0 : f 133 w ≠ 0 := fun h => by rw [h] at e2; simp [rnk] at e2; omega
      have hp := H.pop (by omega) (by rw [ew]; exact hk0)
      have hb8 := H.2.2.2.2.2.2.2.1
      rw [hn] at hb8
      simp only [cnt] at hb8
      have cb := cnt_rng (P := isB) (r := f 133) w
      rw [bndR, if_pos ⟨by omega, by rw [ew]; exact e2⟩] at hR
      have step : ∀ F, F = bnd1 f → V_X12_bind Q 0 [.ref 104, .int (iz le), .null, .null, .null] [] ρ F g := fun F hF => by
        subst hF
        exact w_bind hρ hle hQ w (bnd1 f) hp.1 (by rw [hp.2.1]; omega) hR
      unfold bnd1 at step
      rw [ew, ew2] at step
      have h7 := H.2.2.2.2.2.2.1
      rw [hn, cnt] at h7
      have c3 : isO (f 133 w) = true := by unfold isO; simpa using hk0
      rw [c3, if_pos rfl] at h7
      have co := cnt_rng (P := isO) (r := f 133) w
      have h3 := H.2.2.1
      have h25 : 0 ≤ f 104 25 ∧ f 104 25 < 64 := by omega
      have hB1 : f 133 w ≠ 2 → 2 ≤ f 104 59 := fun h => by
        have : isB (f 133 w) = true := by unfold isB; simp; omega
        rw [this, if_pos rfl] at hb8
        omega
      refine V_al0n dX12_bind_0 ?_
      refine V_getI kk104 (by decide) fl_X12_343 ew2 dX12_bind_1 ?_
      refine V_if_le (tgt := 76) dX12_bind_4 rfl (by unfold ri; omega) (fun b4 => ?_) (fun b4 => ?_)
      · exfalso; omega
      · refine V_al0n dX12_bind_7 ?_
        refine V_getR kk104 (by decide) fl_X12_99 (fx_104_56 hρ) dX12_bind_8 ?_
        refine V_al0n dX12_bind_11 ?_
        refine V_getI kk104 (by decide) fl_X12_343 ew2 dX12_bind_12 ?_
        refine V_iconst dX12_bind_15 ?_
        refine V_isub dX12_bind_16 ?_
        refine V_iald (k := w) kk133 (by decide) (by first | rfl | omega) (by omega) (by first | decide | assumption | omega) rfl dX12_bind_17 ?_
        refine V_callS (as := [_]) ml_X12_346 sm_X12_rank dX12_bind_18 rfl rfl (by decide) (by decide) (Nat.le_of_ble_eq_true rfl) (by decide) (by decide) rfl (c_rank (by unfold ri; omega)) ?_
        refine pq4 ?_
        refine V_il1n dX12_bind_21 ?_
        refine V_icmp_lt (tgt := 76) dX12_bind_22 rfl (by unfold ri; omega) (by unfold ri; omega) (fun b22 => ?_) (fun b22 => ?_)
        · exfalso; omega
        · refine V_al0n dX12_bind_25 ?_
          refine V_dup dX12_bind_26 rfl ?_
          refine V_getI kk104 (by decide) fl_X12_343 ew2 dX12_bind_27 ?_
          refine V_iconst dX12_bind_30 ?_
          refine V_isub dX12_bind_31 ?_
          refine V_putI kk104 (by decide) fl_X12_343 rfl dX12_bind_32 ?_
          refine V_al0n dX12_bind_35 ?_
          refine V_getR kk104 (by decide) fl_X12_99 (fx_104_56 hρ) dX12_bind_36 ?_
          refine V_al0n dX12_bind_39 ?_
          refine V_getI kk104 (by decide) fl_X12_343 u2_s dX12_bind_40 ?_
          refine V_iald (k := w) kk133 (by decide) (by omega) (by omega) (by first | decide | assumption | omega) (u2_n (by omega) rfl) dX12_bind_43 ?_
          refine V_is2n dX12_bind_44 (by decide) rfl ?_
          refine V_il2n dX12_bind_45 ?_
          refine V_iconst dX12_bind_46 ?_
          refine V_icmp_ne (tgt := 54) dX12_bind_47 rfl (by unfold ri; omega) (by unfold ri; omega) (fun b47 => ?_) (fun b47 => ?_)
          · refine V_al0n dX12_bind_54 ?_
            refine V_callV (as := []) ml_X12_350 im_X12_dropHeld se_X12_dropHeld kk104 (by decide) (by decide) dX12_bind_55 rfl rfl (by decide) (by decide) (Nat.le_of_ble_eq_true rfl) (by decide) (by decide) rfl (c_dropHeld hρ (by rw [u2_o (by omega)]; have := hB1 (by omega); omega)) ?_
            refine pq4 ?_
            refine V_is3n dX12_bind_58 (by decide) rfl ?_
            refine V_al0n dX12_bind_59 ?_
            refine V_callV (as := []) ml_X12_350 im_X12_dropHeld se_X12_dropHeld kk104 (by decide) (by decide) dX12_bind_60 rfl rfl (by decide) (by decide) (Nat.le_of_ble_eq_true rfl) (by decide) (by decide) rfl (c_dropHeld hρ (by first | (rw [u2_o (by omega)]; omega) | (unfold drpF; rw [u2_s, u2_o (by omega)]; have := hB1 (by omega); omega))) ?_
            refine pq4 ?_
            refine V_is4 dX12_bind_63 (by decide) rfl ?_
            refine V_al0n dX12_bind_65 ?_
            refine V_il2n dX12_bind_66 ?_
            refine V_il4 dX12_bind_67 ?_
            refine V_il3n dX12_bind_69 ?_
            refine V_callV (as := [_, _, _]) ml_X12_354 im_X12_grown se_X12_grown kk104 (by decide) (by decide) dX12_bind_70 rfl rfl (by decide) (by decide) (Nat.le_of_ble_eq_true rfl) (by decide) (by decide) rfl (c_grown hρ (by unfold drpF; (repeat rw [u2_o (by omega)]); exact h25) (by unfold drpF; first | (rw [u2_s, u2_s, u2_o (by omega)]; have := hB1 (by omega); omega) | (rw [u2_s, u2_o (by omega)]; omega))) ?_
            refine pq4 ?_
            refine V_goto (tgt := 0) dX12_bind_73 rfl ?_
            exact V_weak (by repeat (first | exact wk_n | refine wk_c (Or.inr rfl) ?_ | refine wk_c (Or.inl rfl) ?_)) (step _ (by first | (rw [if_pos (by omega)]; done) | (rw [if_neg (by omega)]; done) | (rw [if_pos (by omega), b47]) | (rw [if_neg (by omega)]; rfl)))
          · refine V_iconst dX12_bind_50 ?_
            refine V_goto (tgt := 58) dX12_bind_51 rfl ?_
            refine V_is3n dX12_bind_58 (by decide) rfl ?_
            refine V_al0n dX12_bind_59 ?_
            refine V_callV (as := []) ml_X12_350 im_X12_dropHeld se_X12_dropHeld kk104 (by decide) (by decide) dX12_bind_60 rfl rfl (by decide) (by decide) (Nat.le_of_ble_eq_true rfl) (by decide) (by decide) rfl (c_dropHeld hρ (by first | (rw [u2_o (by omega)]; omega) | (unfold drpF; rw [u2_s, u2_o (by omega)]; have := hB1 (by omega); omega))) ?_
            refine pq4 ?_
            refine V_is4 dX12_bind_63 (by decide) rfl ?_
            refine V_al0n dX12_bind_65 ?_
            refine V_il2n dX12_bind_66 ?_
            refine V_il4 dX12_bind_67 ?_
            refine V_il3n dX12_bind_69 ?_
            refine V_callV (as := [_, _, _]) ml_X12_354 im_X12_grown se_X12_grown kk104 (by decide) (by decide) dX12_bind_70 rfl rfl (by decide) (by decide) (Nat.le_of_ble_eq_true rfl) (by decide) (by decide) rfl (c_grown hρ (by unfold drpF; (repeat rw [u2_o (by omega)]); exact h25) (by unfold drpF; first | (rw [u2_s, u2_s, u2_o (by omega)]; have := hB1 (by omega); omega) | (rw [u2_s, u2_o (by omega)]; omega))) ?_
            refine pq4 ?_
            refine V_goto (tgt := 0) dX12_bind_73 rfl ?_
            exact V_weak (by repeat (first | exact wk_n | refine wk_c (Or.inr rfl) ?_ | refine wk_c (Or.inl rfl) ?_)) (step _ (by first | (rw [if_pos (by omega)]; done) | (rw [if_neg (by omega)]; done) | (rw [if_pos (by omega), b47]) | (rw [if_neg (by omega)]; rfl)))
    · rw [bndR, if_neg (by rw [ew]; omega)] at hR
      subst hR
      refine V_al0n dX12_bind_0 ?_
      refine V_getI kk104 (by decide) fl_X12_343 ew2 dX12_bind_1 ?_
      refine V_if_le (tgt := 76) dX12_bind_4 rfl (by unfold ri; omega) (fun b4 => ?_) (fun b4 => ?_)
      · exfalso; omega
      · refine V_al0n dX12_bind_7 ?_
        refine V_getR kk104 (by decide) fl_X12_99 (fx_104_56 hρ) dX12_bind_8 ?_
        refine V_al0n dX12_bind_11 ?_
        refine V_getI kk104 (by decide) fl_X12_343 ew2 dX12_bind_12 ?_
        refine V_iconst dX12_bind_15 ?_
        refine V_isub dX12_bind_16 ?_
        refine V_iald (k := w) kk133 (by decide) (by first | rfl | omega) (by omega) (by first | decide | assumption | omega) rfl dX12_bind_17 ?_
        refine V_callS (as := [_]) ml_X12_346 sm_X12_rank dX12_bind_18 rfl rfl (by decide) (by decide) (Nat.le_of_ble_eq_true rfl) (by decide) (by decide) rfl (c_rank (by unfold ri; omega)) ?_
        refine pq4 ?_
        refine V_il1n dX12_bind_21 ?_
        refine V_icmp_lt (tgt := 76) dX12_bind_22 rfl (by unfold ri; omega) (by unfold ri; omega) (fun b22 => ?_) (fun b22 => ?_)
        · exact V_return rfl hQ dX12_bind_76
        · exfalso; omega
termination_by n
theorem c_bind {ρ : RT} {f : IT} {g : JT} (hρ : Fx ρ) {lo : Nat} (H : SJ lo 1 0 f) {le : Int} (hle : 1 ≤ le ∧ le ≤ 6) : C_X12_bind [.ref 104, .int (iz le)] ρ f g (fun r ρ' f' g' => r = none ∧ ρ' = ρ ∧ f' = bndF le f ∧ g' = g) := by
  refine Ct.ofV (by decide) rfl (Nat.le_of_ble_eq_true rfl) ?_
  exact w_bind hρ hle ⟨rfl, rfl, rfl, rfl⟩ _ f H rfl rfl

