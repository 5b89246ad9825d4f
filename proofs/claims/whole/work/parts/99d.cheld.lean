section CHELD
variable {T : TT} {b : Nat}
theorem w_cheld {Q : QT} {ρ0 : RT} {f0 : IT} {g0 : JT} (hk : TOK T) {sk : Int} {ra : Bool} (hsk : 0 ≤ sk ∧ sk ≤ 30) {m : Nat} (hm : m < nMe T) {wt : Int} (hwt : ri wt) {R : Int × Int}
    (hQ : ∀ (ρ : RT) (f : IT) (g : JT), TW T b ρ → CT T b f → GI T false ra f g → SrI T ρ f g → SKg b ρ0 f0 g0 ρ f g → Q (some (.int (iz (if R.1 < 0 then -2 else if wt = 0 then R.1 else R.2)))) ρ f g)
    (k : Nat) (hkl : k ≤ nHo T) (x : Int × Int) {X1 X2 : Int} (hX : (x.1 = -1 ∧ x.2 = 99999 ∧ X1 = -2 ∧ X2 = -2) ∨ (0 ≤ x.1 ∧ x.1 ≤ 10 ∧ X1 = x.1 ∧ X2 = x.2 ∧ 0 ≤ x.2 ∧ x.2 ≤ 99998)) (ρ : RT) (f : IT) (g : JT) (hW : TW T b ρ) (hC : CT T b f) (hG : GI T false ra f g) (hE : GE T (c0 T ra sk m) f) (hI : SrI T ρ f g) (hS : SKg b ρ0 f0 g0 ρ f g) (hR : hdR T ra sk m (nHo T - k) k x = R) :
    V_X11_held Q 47 [.ref 0, .int (iz (m : Int)), .int (iz wt), .int (iz X1), .int (iz X2), .int (iz (k : Int)), .null] [] ρ f g := by
  have hρ := hW.1
  have hb := hW.2.1
  have h3 := hk.ho
  have e14 : T 104 (12 + 2) = (nHo T : Int) := h3.1
  have hcr := c0_cr hk hm (ra := ra) hsk
  have rX1 : ri X1 := by unfold ri; omega
  have rX2 : ri X2 := by unfold ri; omega
  by_cases c : k = nHo T
  · rw [show nHo T - k = 0 by omega] at hR
    simp only [hdR] at hR
    subst hR
    have hq := hQ ρ f g hW hC hG hI hS
    refine V_il5 dX11_held_47 ?_
    refine V_al0n dX11_held_49 ?_
    refine V_getR kk0 (by decide) fl_X11_29 hW.2.2.1 dX11_held_50 ?_
    refine V_iconst dX11_held_53 ?_
    refine V_callV (as := [_]) ml_X11_271 im_X7_size se_X7_size (kb_0 hb) (by decide) (kl_0 hb) dX11_held_54 rfl rfl (by decide) (by decide) (Nat.le_of_ble_eq_true rfl) (by decide) (by decide) rfl (c_size hρ hb hC (i := 2) (by omega)) ?_
    refine pq4 ?_
    refine V_icmp_ge (tgt := 106) dX11_held_57 rfl (by unfold ri; omega) (by unfold ri; omega) (fun b57 => ?_) (fun b57 => ?_)
    · refine V_il2n dX11_held_106 ?_
      refine V_if_ne (tgt := 114) dX11_held_107 rfl hwt (fun b107 => ?_) (fun b107 => ?_)
      · refine V_il4 dX11_held_114 ?_
        exact V_ireturn rfl (by first | (rw [show (if x.1 < 0 then (-2 : Int) else if wt = 0 then x.1 else x.2) = X1 by (repeat' split) <;> omega] at hq; exact hq) | (rw [show (if x.1 < 0 then (-2 : Int) else if wt = 0 then x.1 else x.2) = X2 by (repeat' split) <;> omega] at hq; exact hq)) dX11_held_116
      · refine V_il3n dX11_held_110 ?_
        refine V_goto (tgt := 116) dX11_held_111 rfl ?_
        exact V_ireturn rfl (by first | (rw [show (if x.1 < 0 then (-2 : Int) else if wt = 0 then x.1 else x.2) = X1 by (repeat' split) <;> omega] at hq; exact hq) | (rw [show (if x.1 < 0 then (-2 : Int) else if wt = 0 then x.1 else x.2) = X2 by (repeat' split) <;> omega] at hq; exact hq)) dX11_held_116
    · exfalso; omega
  · rw [show nHo T - k = (nHo T - (k + 1)) + 1 by omega, hdR] at hR
    have br := bst_rng hk (ra := ra) hsk hm (h := k) (by omega) 0
    have hs2 := c_seek (c := c0 T ra sk m) (q := 0) hW hC hcr hG hE hm (h := k) (by omega) rfl (by omega) hI
    have e0 : skA T (c0 T ra sk m) (T 117 k) 0 (stM T m) = if (bst T ra sk m k 0).1 = 99999 then -2 else (bst T ra sk m k 0).1 := rfl
    have rS : ri (skA T (c0 T ra sk m) (T 117 k) 0 (stM T m)) := by rw [e0]; unfold ri; split <;> omega
    generalize skA T (c0 T ra sk m) (T 117 k) 0 (stM T m) = S at *
    refine V_il5 dX11_held_47 ?_
    refine V_al0n dX11_held_49 ?_
    refine V_getR kk0 (by decide) fl_X11_29 hW.2.2.1 dX11_held_50 ?_
    refine V_iconst dX11_held_53 ?_
    refine V_callV (as := [_]) ml_X11_271 im_X7_size se_X7_size (kb_0 hb) (by decide) (kl_0 hb) dX11_held_54 rfl rfl (by decide) (by decide) (Nat.le_of_ble_eq_true rfl) (by decide) (by decide) rfl (c_size hρ hb hC (i := 2) (by omega)) ?_
    refine pq4 ?_
    refine V_icmp_ge (tgt := 106) dX11_held_57 rfl (by unfold ri; omega) (by unfold ri; omega) (fun b57 => ?_) (fun b57 => ?_)
    · exfalso; omega
    · refine V_al0n dX11_held_60 ?_
      refine V_getR kk0 (by decide) fl_X11_86 (fx_0_16 hρ) dX11_held_61 ?_
      refine V_il1n dX11_held_64 ?_
      refine V_il5 dX11_held_65 ?_
      refine V_iconst dX11_held_67 ?_
      refine V_callV (as := [_, _, _]) ml_X11_277 im_X4_seek se_X4_seek kk66 (by decide) (by decide) dX11_held_68 rfl rfl (by decide) (by decide) (Nat.le_of_ble_eq_true rfl) (by decide) (by decide) rfl (hs2) ?_
      rintro r68 ρ68 f68 g68 ⟨rfl, t1, t2, t3, t4, t5, t6⟩
      have hE2 : GE T (c0 T ra sk m) f68 := hE.cg (fun k => t6.2.1 55 k (by omega) (by omega) (by omega) (by omega) (by omega))
      refine V_is6 dX11_held_71 (by decide) rfl ?_
      refine V_il6 dX11_held_73 ?_
      refine V_bipush dX11_held_75 rfl ?_
      refine V_icmp_eq (tgt := 100) dX11_held_77 rfl rS (by unfold ri; omega) (fun b77 => ?_) (fun b77 => ?_)
      · refine V_inc5 dX11_held_100 (by decide) rfl ?_
        refine V_goto (tgt := 47) dX11_held_103 rfl ?_
        (have hn : ¬ (bst T ra sk m k 0).1 < x.2 := by (split at e0 <;> omega)); rw [if_neg hn] at hR; exact V_weak (by repeat (first | exact wk_n | refine wk_c (Or.inr rfl) ?_ | refine wk_c (Or.inl rfl) ?_)) (w_cheld hk hsk hm hwt hQ (k + 1) (by omega) x hX _ _ _ t1 t2 t3 hE2 t4 (hS.tr t6) hR)
      · refine V_il3n dX11_held_80 ?_
        refine V_bipush dX11_held_81 rfl ?_
        refine V_icmp_eq (tgt := 93) dX11_held_83 rfl rX1 (by unfold ri; omega) (fun b83 => ?_) (fun b83 => ?_)
        · refine V_il5 dX11_held_93 ?_
          refine V_is3n dX11_held_95 (by decide) rfl ?_
          refine V_il6 dX11_held_96 ?_
          refine V_is4 dX11_held_98 (by decide) rfl ?_
          refine V_inc5 dX11_held_100 (by decide) rfl ?_
          refine V_goto (tgt := 47) dX11_held_103 rfl ?_
          (have hn : (bst T ra sk m k 0).1 < x.2 := by (split at e0 <;> omega)); (have hv : S = (bst T ra sk m k 0).1 ∧ (bst T ra sk m k 0).1 ≠ 99999 := by (split at e0 <;> omega)); rw [if_pos hn] at hR; exact V_weak (by repeat (first | exact wk_n | refine wk_c (Or.inr rfl) ?_ | refine wk_c (Or.inl rfl) ?_)) (w_cheld hk hsk hm hwt hQ (k + 1) (by omega) ((k : Int), (bst T ra sk m k 0).1) (Or.inr ⟨by simp only; omega, by simp only; omega, rfl, hv.1, by simp only; omega, by simp only; omega⟩) _ _ _ t1 t2 t3 hE2 t4 (hS.tr t6) hR)
        · refine V_il6 dX11_held_86 ?_
          refine V_il4 dX11_held_88 ?_
          refine V_icmp_ge (tgt := 100) dX11_held_90 rfl rS rX2 (fun b90 => ?_) (fun b90 => ?_)
          · refine V_inc5 dX11_held_100 (by decide) rfl ?_
            refine V_goto (tgt := 47) dX11_held_103 rfl ?_
            (have hn : ¬ (bst T ra sk m k 0).1 < x.2 := by (split at e0 <;> omega)); rw [if_neg hn] at hR; exact V_weak (by repeat (first | exact wk_n | refine wk_c (Or.inr rfl) ?_ | refine wk_c (Or.inl rfl) ?_)) (w_cheld hk hsk hm hwt hQ (k + 1) (by omega) x hX _ _ _ t1 t2 t3 hE2 t4 (hS.tr t6) hR)
          · refine V_il5 dX11_held_93 ?_
            refine V_is3n dX11_held_95 (by decide) rfl ?_
            refine V_il6 dX11_held_96 ?_
            refine V_is4 dX11_held_98 (by decide) rfl ?_
            refine V_inc5 dX11_held_100 (by decide) rfl ?_
            refine V_goto (tgt := 47) dX11_held_103 rfl ?_
            (have hn : (bst T ra sk m k 0).1 < x.2 := by (split at e0 <;> omega)); (have hv : S = (bst T ra sk m k 0).1 ∧ (bst T ra sk m k 0).1 ≠ 99999 := by (split at e0 <;> omega)); rw [if_pos hn] at hR; exact V_weak (by repeat (first | exact wk_n | refine wk_c (Or.inr rfl) ?_ | refine wk_c (Or.inl rfl) ?_)) (w_cheld hk hsk hm hwt hQ (k + 1) (by omega) ((k : Int), (bst T ra sk m k 0).1) (Or.inr ⟨by simp only; omega, by simp only; omega, rfl, hv.1, by simp only; omega, by simp only; omega⟩) _ _ _ t1 t2 t3 hE2 t4 (hS.tr t6) hR)
termination_by nHo T - k
end CHELD

