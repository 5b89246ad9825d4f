section CLONE
variable {ρ : RT} {g : JT}
/-- the one number of load or seed: where it is said (s), where it lies (v) -/
def loneF (s v : Nat) (hi : Int) (φ : IT) : Bool × IT := if φ 104 s = 1 then (false, wrg 3 φ) else ((numF 0 hi (tkF (u2 φ 104 s 1))).1, u2 (numF 0 hi (tkF (u2 φ 104 s 1))).2 104 v ((numF 0 hi (tkF (u2 φ 104 s 1))).2 104 11))
theorem c_readLone {f φ : IT} (hρ : Fx ρ) (hc : CUR f φ) (hK : PK φ) {s v : Nat} (hs : s = 28 ∨ s = 29) (hv : v = 26 ∨ v = 27) {t hi : Int} (rt : ri t) (hh : 0 ≤ hi ∧ hi ≤ 99999) (ht : φ 104 s = 1 ↔ t ≠ -1) :
    C_X2_readLone [.ref 2, .int (iz t), .int (iz hi)] ρ f g (fun r ρ' f' g' => ∃ x : Int, r = some (.int (iz x)) ∧ ρ' = ρ ∧ (∀ a k, a ≠ 2 → ¬ (a = 4 ∧ 2 ≤ k) → f' a k = f a k) ∧ ((thn (loneF s v hi φ) lnE).1 = true → x = (thn (loneF s v hi φ) lnE).2 104 v ∧ (0 ≤ x ∧ x ≤ 99999) ∧ PRE f' (thn (loneF s v hi φ) lnE).2) ∧ ((thn (loneF s v hi φ) lnE).1 = false → x = -1 ∧ FLm f' (thn (loneF s v hi φ) lnE).2) ∧ g' = g) := by
  refine Ct.ofV (by decide) rfl (Nat.le_of_ble_eq_true rfl) ?_
  by_cases c : φ 104 s = 1
  · have eR : thn (loneF s v hi φ) lnE = (false, wrg 3 φ) := by unfold loneF; rw [if_pos c, thn_f rfl]
    have tn := ht.mp c
    rw [eR]
    refine V_il1n dX2_readLone_0 ?_
    refine V_iconst dX2_readLone_1 ?_
    refine V_icmp_eq (tgt := 13) dX2_readLone_2 rfl rt (by unfold ri; omega) (fun b2 => ?_) (fun b2 => ?_)
    · exfalso; omega
    · refine V_al0n dX2_readLone_5 ?_
      refine V_iconst dX2_readLone_6 ?_
      refine V_callV (as := [_]) ml_X2_68 im_X2_refuse se_X2_refuse kk2 (by decide) (by decide) dX2_readLone_7 rfl rfl (by decide) (by decide) (Nat.le_of_ble_eq_true rfl) (by decide) (by decide) rfl (c_refuse hρ) ?_
      refine pq4 ?_
      refine V_pop dX2_readLone_10 rfl ?_
      refine V_iconst dX2_readLone_11 ?_
      exact V_ireturn rfl ⟨-1, rfl, rfl, fun a k z1 z2 => rfF_o z1, (fun q => by (cases q)), fun _ => ⟨rfl, rfF_fl hc.2.1.1⟩, rfl⟩ dX2_readLone_12
  · have te : t = -1 := by
      by_cases z : t = -1
      · exact z
      · exact absurd (ht.mpr z) c
    have hK1 : PK (tkF (u2 φ 104 s 1)) := (hK.up (by omega) (by omega) (by omega)).tk
    have hp := hc.pre (φ' := u2 φ 104 s 1) hK.1 (u2_row (by omega)) (u2_o (by omega)) (u2_o (by omega))
    have eL : loneF s v hi φ = ((numF 0 hi (tkF (u2 φ 104 s 1))).1, u2 (numF 0 hi (tkF (u2 φ 104 s 1))).2 104 v ((numF 0 hi (tkF (u2 φ 104 s 1))).2 104 11)) := by unfold loneF; rw [if_neg c]
    generalize tkF (u2 φ 104 s 1) = ψ at *
    have go : ∀ f1 : IT, KT4 f f1 → CUR f1 ψ → V_X2_readLone (fun r ρ' f' g' => ∃ x : Int, r = some (.int (iz x)) ∧ ρ' = ρ ∧ (∀ a k, a ≠ 2 → ¬ (a = 4 ∧ 2 ≤ k) → f' a k = f a k) ∧ ((thn (loneF s v hi φ) lnE).1 = true → x = (thn (loneF s v hi φ) lnE).2 104 v ∧ (0 ≤ x ∧ x ≤ 99999) ∧ PRE f' (thn (loneF s v hi φ) lnE).2) ∧ ((thn (loneF s v hi φ) lnE).1 = false → x = -1 ∧ FLm f' (thn (loneF s v hi φ) lnE).2) ∧ g' = g) 20 [.ref 2, .int (iz t), .int (iz hi), .null] [] ρ f1 g := by
      intro f1 k1 c1
      have hnum := c_isNumber (g := g) hρ c1 hK1 (lo := 0) (hi := hi) (by omega) hh.2 (by unfold ri; omega) (by unfold ri; omega)
      cases en : (numF 0 hi ψ).1 with
      | false =>
        have eR : thn (loneF s v hi φ) lnE = (false, u2 (numF 0 hi ψ).2 104 v ((numF 0 hi ψ).2 104 11)) := by rw [eL, en, thn_f rfl]
        rw [eR]
        rw [en] at hnum
        refine V_al0n dX2_readLone_20 ?_
        refine V_iconst dX2_readLone_21 ?_
        refine V_il2n dX2_readLone_22 ?_
        refine V_callV (as := [_, _]) ml_X2_133 im_X2_isNumber se_X2_isNumber kk2 (by decide) (by decide) dX2_readLone_23 rfl rfl (by decide) (by decide) (Nat.le_of_ble_eq_true rfl) (by decide) (by decide) rfl (hnum) ?_
        rintro r23 ρ23 f23 g23 ⟨rfl, s23_0, -, n2, s23_1⟩
        obtain rfl := s23_0.symm
        obtain rfl := s23_1.symm
        refine V_bf (tgt := 31) dX2_readLone_26 rfl (fun b26 => ?_) (fun b26 => ?_)
        · cases b26
        · obtain ⟨w, rfl, ew⟩ := n2 rfl
          have hfl : FLm (rfF w f1) (u2 (numF 0 hi ψ).2 104 v ((numF 0 hi ψ).2 104 11)) := by have := rfF_fl (w := w) c1.2.1.1; unfold FLm at this ⊢; rw [u2_o (by omega), u2_o (by omega), ew]; exact this
          refine V_iconst dX2_readLone_29 ?_
          exact V_ireturn rfl ⟨-1, rfl, rfl, fun a k z1 z2 => (rfF_o z1).trans (k1 a k z2), (fun q => by (cases q)), fun _ => ⟨rfl, hfl⟩, rfl⟩ dX2_readLone_30
      | true =>
        rw [en] at hnum
        refine V_al0n dX2_readLone_20 ?_
        refine V_iconst dX2_readLone_21 ?_
        refine V_il2n dX2_readLone_22 ?_
        refine V_callV (as := [_, _]) ml_X2_133 im_X2_isNumber se_X2_isNumber kk2 (by decide) (by decide) dX2_readLone_23 rfl rfl (by decide) (by decide) (Nat.le_of_ble_eq_true rfl) (by decide) (by decide) rfl (hnum) ?_
        rintro r23 ρ23 f23 g23 ⟨rfl, s23_0, n1, -, s23_1⟩
        obtain rfl := s23_0.symm
        obtain rfl := s23_1.symm
        refine V_bf (tgt := 31) dX2_readLone_26 rfl (fun b26 => ?_) (fun b26 => ?_)
        · obtain ⟨e23, v5, vr, v8, vt⟩ := n1 rfl
          obtain rfl := e23.symm
          have hg : (numF 0 hi ψ).2 104 11 = ψ 104 9 := by rw [vt, tkF_o (by omega), u2_s]
          have hK2 : PK (u2 (tkF (u2 ψ 104 11 (ψ 104 9))) 104 v (ψ 104 9)) := (hK1.up (by omega) (by omega) (by omega)).tk.up (by omega) (by omega) (by omega)
          have hp2 : PRE f1 (u2 (tkF (u2 ψ 104 11 (ψ 104 9))) 104 v (ψ 104 9)) := (c1.pre (φ' := u2 ψ 104 11 (ψ 104 9)) hK1.1 (u2_row (by omega)) (u2_o (by omega)) (u2_o (by omega))).cg (fun _ => rfl) (fun _ => rfl) (u2_row (by omega)) (fun k z1 z2 => u2_o (by omega))
          have eR : thn (loneF s v hi φ) lnE = lnE (u2 (tkF (u2 ψ 104 11 (ψ 104 9))) 104 v (ψ 104 9)) := by rw [eL, en, thn_tt, hg, vt]
          refine V_al0n dX2_readLone_31 ?_
          refine V_getR kk2 (by decide) fl_X2_42 (fx_2_0 hρ) dX2_readLone_32 ?_
          refine V_getI kk4 (by decide) fl_X2_115 v5 dX2_readLone_35 ?_
          refine V_is3n dX2_readLone_38 (by decide) rfl ?_
          refine V_al0n dX2_readLone_39 ?_
          refine V_getR kk2 (by decide) fl_X2_42 (fx_2_0 hρ) dX2_readLone_40 ?_
          refine V_callV (as := []) ml_X2_55 im_X6_next se_X6_next kk4 (by decide) (by decide) dX2_readLone_43 rfl rfl (by decide) (by decide) (Nat.le_of_ble_eq_true rfl) (by decide) (by decide) rfl (c_nextP hρ hp2) ?_
          rintro r43 ρ43 f43 g43 ⟨rfl, s43_0, k43, c43, s43_1⟩
          obtain rfl := s43_0.symm
          obtain rfl := s43_1.symm
          refine V_al0n dX2_readLone_46 ?_
          refine V_callV (as := []) ml_X2_152 im_X2_ends se_X2_ends kk2 (by decide) (by decide) dX2_readLone_47 rfl rfl (by decide) (by decide) (Nat.le_of_ble_eq_true rfl) (by decide) (by decide) rfl (c_ends hρ c43 hK2) ?_
          rintro r47 ρ47 f47 g47 ⟨rfl, s47_0, x47, s47_1⟩
          obtain rfl := s47_0.symm
          obtain rfl := s47_1.symm
          refine V_bt (tgt := 57) dX2_readLone_50 rfl (fun b50 => ?_) (fun b50 => ?_)
          · refine V_iconst dX2_readLone_57 ?_
            exact V_ireturn rfl (by
  rw [eR]
  unfold lnE
  first
  | (rw [if_pos b50] at x47 ⊢; subst x47; exact ⟨_, rfl, rfl, fun a k z1 z2 => (k43 a k z2).trans (k1 a k z2), fun _ => ⟨by show _ = tkF _ 104 v; rw [tkF_o (by omega), u2_s], by omega, c43.pre hK2.1 rfl rfl rfl⟩, (fun q => by (cases q)), rfl⟩)
  | (rw [if_neg (by rw [b50]; exact Bool.false_ne_true)] at x47 ⊢; subst x47; exact ⟨-1, rfl, rfl, fun a k z1 z2 => (rfF_o z1).trans ((k43 a k z2).trans (k1 a k z2)), (fun q => by (cases q)), fun _ => ⟨rfl, rfF_fl c43.2.1.1⟩, rfl⟩)) dX2_readLone_58
          · refine V_il3n dX2_readLone_53 ?_
            refine V_goto (tgt := 58) dX2_readLone_54 rfl ?_
            exact V_ireturn rfl (by
  rw [eR]
  unfold lnE
  first
  | (rw [if_pos b50] at x47 ⊢; subst x47; exact ⟨_, rfl, rfl, fun a k z1 z2 => (k43 a k z2).trans (k1 a k z2), fun _ => ⟨by show _ = tkF _ 104 v; rw [tkF_o (by omega), u2_s], by omega, c43.pre hK2.1 rfl rfl rfl⟩, (fun q => by (cases q)), rfl⟩)
  | (rw [if_neg (by rw [b50]; exact Bool.false_ne_true)] at x47 ⊢; subst x47; exact ⟨-1, rfl, rfl, fun a k z1 z2 => (rfF_o z1).trans ((k43 a k z2).trans (k1 a k z2)), (fun q => by (cases q)), fun _ => ⟨rfl, rfF_fl c43.2.1.1⟩, rfl⟩)) dX2_readLone_58
        · cases b26
    refine V_il1n dX2_readLone_0 ?_
    refine V_iconst dX2_readLone_1 ?_
    refine V_icmp_eq (tgt := 13) dX2_readLone_2 rfl rt (by unfold ri; omega) (fun b2 => ?_) (fun b2 => ?_)
    · refine V_al0n dX2_readLone_13 ?_
      refine V_getR kk2 (by decide) fl_X2_42 (fx_2_0 hρ) dX2_readLone_14 ?_
      refine V_callV (as := []) ml_X2_55 im_X6_next se_X6_next kk4 (by decide) (by decide) dX2_readLone_17 rfl rfl (by decide) (by decide) (Nat.le_of_ble_eq_true rfl) (by decide) (by decide) rfl (c_nextP hρ hp) ?_
      rintro r17 ρ17 f17 g17 ⟨rfl, s17_0, k17, c17, s17_1⟩
      obtain rfl := s17_0.symm
      obtain rfl := s17_1.symm
      exact go f17 k17 c17
    · exfalso; omega
end CLONE

