section CPLAN
variable {ρ : RT} {g : JT} {b n : Nat}
/-- the hold of a plan being read -/
def hpF (n nh : Nat) (φ : IT) : Bool × IT := if φ 104 8 ≠ 2 then (false, wrg 1 φ) else if fnd (φ 116) 3 nh (φ 104 9) < 0 then (false, wrg 4 φ) else (true, u2 (tkF (u2 φ 121 (5 + n) (fnd (φ 116) 3 nh (φ 104 9)))) 122 (5 + n) 0)
theorem c_readHold {f φ : IT} (hρ : Fx ρ) (hb : b = 5 ∨ b = 30) (hn : n < 5) {nh : Nat} (hnh : nh ≤ 3) (hR3 : RWs b 3 n f) (hR2 : RWs b 2 nh f) (hN2 : ∀ k, k < nh → f (b + 3 + 3 * 2) k = φ 116 (3 + k)) (hr2 : ∀ k, ri (φ 116 k)) (hp : PRE f φ) (hK : PK φ) :
    C_X2_readHold [.ref 2, .ref b] ρ f g (fun r ρ' f' g' => r = some (.int (iz (bz (hpF n nh φ).1))) ∧ ρ' = ρ ∧ RowKf b 3 n f f' ∧ f' (b + 3 + 3 * 3) n = f (b + 3 + 3 * 3) n ∧ ((hpF n nh φ).1 = true → PRE f' (hpF n nh φ).2 ∧ PK (hpF n nh φ).2 ∧ f' (b + 4 + 3 * 3) (n * wdK 3 + 0) = (hpF n nh φ).2 121 (5 + n)) ∧ ((hpF n nh φ).1 = false → FLm f' (hpF n nh φ).2) ∧ g' = g) := by
  have hkd2 := kdR (i := 2) hb (by omega)
  have hfx2 := fxR (i := 2) hρ hb (by omega)
  have hkd3 := kdR (i := 3) hb (by omega)
  have hfx3 := fxR (i := 3) hρ hb (by omega)
  have w7 : wdK 3 = 7 := rfl
  have m5 : mxK 3 = 5 := rfl
  have m3 : mxK 2 = 3 := rfl
  refine Ct.ofV (by decide) rfl (Nat.le_of_ble_eq_true rfl) ?_
  have go : ∀ f1 : IT, KT4 f f1 → CUR f1 φ → V_X2_readHold (fun r ρ' f' g' => r = some (.int (iz (bz (hpF n nh φ).1))) ∧ ρ' = ρ ∧ RowKf b 3 n f f' ∧ f' (b + 3 + 3 * 3) n = f (b + 3 + 3 * 3) n ∧ ((hpF n nh φ).1 = true → PRE f' (hpF n nh φ).2 ∧ PK (hpF n nh φ).2 ∧ f' (b + 4 + 3 * 3) (n * wdK 3 + 0) = (hpF n nh φ).2 121 (5 + n)) ∧ ((hpF n nh φ).1 = false → FLm f' (hpF n nh φ).2) ∧ g' = g) 7 [.ref 2, .ref b, .null] [] ρ f1 g := by
    intro f1 k1 hc1
    have hR31 : RWs b 3 n f1 := (RowKf.kt (n := n) k1).rws hb (by omega) hR3
    have hR21 : RWs b 2 nh f1 := (RowKf.kt (n := nh) k1).rws hb (by omega) hR2
    have hN21 : ∀ k, k < nh → f1 (b + 3 + 3 * 2) k = φ 116 (3 + k) := fun k hk => by rw [k1 _ _ (by omega)]; exact hN2 k hk
    obtain ⟨k8, k9, ku1, ku2, ku5⟩ := hK.2
    have hv2 := hc1.2.2.2.2.1
    have nmk : f1 (b + 3 + 3 * 3) n = f (b + 3 + 3 * 3) n := k1 _ _ (by omega)
    by_cases e2 : φ 104 8 = 2
    · obtain ⟨v1, v2, v3⟩ := hv2 e2
      have hfe : fnd (f1 (b + 3 + 3 * 2)) 0 nh (φ 104 9) = fnd (φ 116) 3 nh (φ 104 9) := fnd_cg2 (fun j hj => by rw [Nat.zero_add]; exact hN21 j hj)
      have hfr := fnd_rng (r := φ 116) (o := 3) (n := nh) (x := φ 104 9)
      have hcf := c_prfind (i := 2) (g := g) hρ hb (by omega) hR21 (by omega) (x := φ 104 9) (by unfold ri; omega) (fun k hk => by rw [hN21 k hk]; exact hr2 _)
      rw [hfe] at hcf
      by_cases e3 : fnd (φ 116) 3 nh (φ 104 9) < 0
      · have en : hpF n nh φ = (false, wrg 4 φ) := by unfold hpF; rw [if_neg (by omega), if_pos e3]
        have hput := c_rput (i := 3) (g := g) (v := fnd (φ 116) 3 nh (φ 104 9)) hρ hb (by omega) hR31 (by omega) (j := 0) (by omega)
        rw [en]
        refine V_al0n dX2_readHold_7 ?_
        refine V_getR kk2 (by decide) fl_X2_42 (fx_2_0 hρ) dX2_readHold_8 ?_
        refine V_callV (as := []) ml_X2_111 im_X6_isName se_X6_isName kk4 (by decide) (by decide) dX2_readHold_11 rfl rfl (by decide) (by decide) (Nat.le_of_ble_eq_true rfl) (by decide) (by decide) rfl (c_isName hc1 hK) ?_
        refine pq4 ?_
        refine V_bf (tgt := 23) dX2_readHold_14 rfl (fun b14 => ?_) (fun b14 => ?_)
        · refine V_al1n dX2_readHold_23 ?_
          refine V_getR (kb_0 hb) (kl_0 hb) fl_X2_99 (fb_0_0 hρ hb) dX2_readHold_24 ?_
          refine V_iconst dX2_readHold_27 ?_
          refine V_aald (k := 2) (kb_1 hb) (by decide) (kl_1 hb) (by first | rfl | omega) (by omega) (by decide) hfx2.1 dX2_readHold_28 ?_
          refine V_al0n dX2_readHold_29 ?_
          refine V_getR kk2 (by decide) fl_X2_42 (fx_2_0 hρ) dX2_readHold_30 ?_
          refine V_getI kk4 (by decide) fl_X2_115 v3 dX2_readHold_33 ?_
          refine V_callV (as := [_]) ml_X2_118 im_X3_find se_X3_find hkd2.1 (by decide) (kdlt hkd2.1 (by decide)) dX2_readHold_36 rfl rfl (by decide) (by decide) (Nat.le_of_ble_eq_true rfl) (by decide) (by decide) rfl (hcf) ?_
          refine pq4 ?_
          refine V_is2n dX2_readHold_39 (by decide) rfl ?_
          refine V_al1n dX2_readHold_40 ?_
          refine V_getR (kb_0 hb) (kl_0 hb) fl_X2_99 (fb_0_0 hρ hb) dX2_readHold_41 ?_
          refine V_iconst dX2_readHold_44 ?_
          refine V_aald (k := 3) (kb_1 hb) (by decide) (kl_1 hb) (by first | rfl | omega) (by omega) (by decide) hfx3.1 dX2_readHold_45 ?_
          refine V_iconst dX2_readHold_46 ?_
          refine V_il2n dX2_readHold_47 ?_
          refine V_callV (as := [_, _]) ml_X2_137 im_X3_put se_X3_put hkd3.1 (by decide) (kdlt hkd3.1 (by decide)) dX2_readHold_48 rfl rfl (by decide) (by decide) (Nat.le_of_ble_eq_true rfl) (by decide) (by decide) rfl (hput) ?_
          refine pq4 ?_
          refine V_il2n dX2_readHold_51 ?_
          refine V_iconst dX2_readHold_52 ?_
          refine V_icmp_ne (tgt := 64) dX2_readHold_53 rfl (by unfold ri; omega) (by unfold ri; omega) (fun b53 => ?_) (fun b53 => ?_)
          · exfalso; omega
          · refine V_al0n dX2_readHold_56 ?_
            refine V_iconst dX2_readHold_57 ?_
            refine V_callV (as := [_]) ml_X2_68 im_X2_refuse se_X2_refuse kk2 (by decide) (by decide) dX2_readHold_58 rfl rfl (by decide) (by decide) (Nat.le_of_ble_eq_true rfl) (by decide) (by decide) rfl (c_refuse hρ) ?_
            refine pq4 ?_
            refine V_bt (tgt := 68) dX2_readHold_61 rfl (fun b61 => ?_) (fun b61 => ?_)
            · refine V_iconst dX2_readHold_68 ?_
              exact V_zreturn rfl (by first | exact Or.inl rfl | exact Or.inr rfl | (unfold bz; split <;> simp)) ⟨rfl, rfl, (fun a k z1 z2 z3 z4 => by rw [rfF_o z1, u2_o (by omega)]; exact k1 a k z2), (by rw [rfF_o (by omega), u2_o (by omega)]; exact nmk), (fun q => by (cases q)), (fun _ => rfF_fl (by rw [u2_o (by omega)]; exact hc1.2.1.1)), rfl⟩ dX2_readHold_69
            · cases b61
        · simp [e2] at b14
      · have en : hpF n nh φ = (true, u2 (tkF (u2 φ 121 (5 + n) (fnd (φ 116) 3 nh (φ 104 9)))) 122 (5 + n) 0) := by unfold hpF; rw [if_neg (by omega), if_neg e3]
        have hput := c_rput (i := 3) (g := g) (v := fnd (φ 116) 3 nh (φ 104 9)) hρ hb (by omega) hR31 (by omega) (j := 0) (by omega)
        have hpr : PRE f1 (tkF (u2 φ 121 (5 + n) (fnd (φ 116) 3 nh (φ 104 9)))) := hc1.pre hK.1 (u2_row (by omega)) (u2_o (by omega)) (u2_o (by omega))
        have hpr2 : PRE f1 (u2 (tkF (u2 φ 121 (5 + n) (fnd (φ 116) 3 nh (φ 104 9)))) 122 (5 + n) 0) := hpr.cg (fun _ => rfl) (fun _ => rfl) (u2_row (by omega)) (fun k z1 z2 => u2_o (by omega))
        have hKr : PK (u2 (tkF (u2 φ 121 (5 + n) (fnd (φ 116) 3 nh (φ 104 9)))) 122 (5 + n) 0) := (hK.up (by omega) (by omega) (by omega)).tk.up (by omega) (by omega) (by omega)
        have e121 : u2 (tkF (u2 φ 121 (5 + n) (fnd (φ 116) 3 nh (φ 104 9)))) 122 (5 + n) 0 121 (5 + n) = fnd (φ 116) 3 nh (φ 104 9) := by rw [u2_o (by omega), tkF_o (by omega), u2_s]
        rw [en]
        refine V_al0n dX2_readHold_7 ?_
        refine V_getR kk2 (by decide) fl_X2_42 (fx_2_0 hρ) dX2_readHold_8 ?_
        refine V_callV (as := []) ml_X2_111 im_X6_isName se_X6_isName kk4 (by decide) (by decide) dX2_readHold_11 rfl rfl (by decide) (by decide) (Nat.le_of_ble_eq_true rfl) (by decide) (by decide) rfl (c_isName hc1 hK) ?_
        refine pq4 ?_
        refine V_bf (tgt := 23) dX2_readHold_14 rfl (fun b14 => ?_) (fun b14 => ?_)
        · refine V_al1n dX2_readHold_23 ?_
          refine V_getR (kb_0 hb) (kl_0 hb) fl_X2_99 (fb_0_0 hρ hb) dX2_readHold_24 ?_
          refine V_iconst dX2_readHold_27 ?_
          refine V_aald (k := 2) (kb_1 hb) (by decide) (kl_1 hb) (by first | rfl | omega) (by omega) (by decide) hfx2.1 dX2_readHold_28 ?_
          refine V_al0n dX2_readHold_29 ?_
          refine V_getR kk2 (by decide) fl_X2_42 (fx_2_0 hρ) dX2_readHold_30 ?_
          refine V_getI kk4 (by decide) fl_X2_115 v3 dX2_readHold_33 ?_
          refine V_callV (as := [_]) ml_X2_118 im_X3_find se_X3_find hkd2.1 (by decide) (kdlt hkd2.1 (by decide)) dX2_readHold_36 rfl rfl (by decide) (by decide) (Nat.le_of_ble_eq_true rfl) (by decide) (by decide) rfl (hcf) ?_
          refine pq4 ?_
          refine V_is2n dX2_readHold_39 (by decide) rfl ?_
          refine V_al1n dX2_readHold_40 ?_
          refine V_getR (kb_0 hb) (kl_0 hb) fl_X2_99 (fb_0_0 hρ hb) dX2_readHold_41 ?_
          refine V_iconst dX2_readHold_44 ?_
          refine V_aald (k := 3) (kb_1 hb) (by decide) (kl_1 hb) (by first | rfl | omega) (by omega) (by decide) hfx3.1 dX2_readHold_45 ?_
          refine V_iconst dX2_readHold_46 ?_
          refine V_il2n dX2_readHold_47 ?_
          refine V_callV (as := [_, _]) ml_X2_137 im_X3_put se_X3_put hkd3.1 (by decide) (kdlt hkd3.1 (by decide)) dX2_readHold_48 rfl rfl (by decide) (by decide) (Nat.le_of_ble_eq_true rfl) (by decide) (by decide) rfl (hput) ?_
          refine pq4 ?_
          refine V_il2n dX2_readHold_51 ?_
          refine V_iconst dX2_readHold_52 ?_
          refine V_icmp_ne (tgt := 64) dX2_readHold_53 rfl (by unfold ri; omega) (by unfold ri; omega) (fun b53 => ?_) (fun b53 => ?_)
          · refine V_iconst dX2_readHold_64 ?_
            refine V_goto (tgt := 69) dX2_readHold_65 rfl ?_
            exact V_zreturn rfl (by first | exact Or.inl rfl | exact Or.inr rfl | (unfold bz; split <;> simp)) ⟨rfl, rfl, (fun a k z1 z2 z3 z4 => (u2_o (by omega)).trans (k1 a k z2)), (u2_o (by omega)).trans nmk, (fun _ => ⟨hpr2.cg (fun k => u2_o (by omega)) (fun k => u2_o (by omega)) rfl (fun _ _ _ => rfl), hKr, u2_s.trans e121.symm⟩), (fun q => by (cases q)), rfl⟩ dX2_readHold_69
          · exfalso; omega
        · simp [e2] at b14
    · have en : hpF n nh φ = (false, wrg 1 φ) := by unfold hpF; rw [if_pos e2]
      rw [en]
      refine V_al0n dX2_readHold_7 ?_
      refine V_getR kk2 (by decide) fl_X2_42 (fx_2_0 hρ) dX2_readHold_8 ?_
      refine V_callV (as := []) ml_X2_111 im_X6_isName se_X6_isName kk4 (by decide) (by decide) dX2_readHold_11 rfl rfl (by decide) (by decide) (Nat.le_of_ble_eq_true rfl) (by decide) (by decide) rfl (c_isName hc1 hK) ?_
      refine pq4 ?_
      refine V_bf (tgt := 23) dX2_readHold_14 rfl (fun b14 => ?_) (fun b14 => ?_)
      · simp [e2] at b14
      · refine V_al0n dX2_readHold_17 ?_
        refine V_iconst dX2_readHold_18 ?_
        refine V_callV (as := [_]) ml_X2_68 im_X2_refuse se_X2_refuse kk2 (by decide) (by decide) dX2_readHold_19 rfl rfl (by decide) (by decide) (Nat.le_of_ble_eq_true rfl) (by decide) (by decide) rfl (c_refuse hρ) ?_
        refine pq4 ?_
        exact V_zreturn rfl (by first | exact Or.inl rfl | exact Or.inr rfl | (unfold bz; split <;> simp)) ⟨rfl, rfl, (RowKf.kt k1).tr RowKf.rf2, (rfF_o (by omega)).trans nmk, (fun q => by (cases q)), (fun _ => rfF_fl hc1.2.1.1), rfl⟩ dX2_readHold_22
  refine V_al0n dX2_readHold_0 ?_
  refine V_getR kk2 (by decide) fl_X2_42 (fx_2_0 hρ) dX2_readHold_1 ?_
  refine V_callV (as := []) ml_X2_55 im_X6_next se_X6_next kk4 (by decide) (by decide) dX2_readHold_4 rfl rfl (by decide) (by decide) (Nat.le_of_ble_eq_true rfl) (by decide) (by decide) rfl (c_nextP hρ hp) ?_
  rintro r4 ρ4 f4 g4 ⟨rfl, s4_0, k4, c4, s4_1⟩
  obtain rfl := s4_0.symm
  obtain rfl := s4_1.symm
  exact go f4 k4 c4
/-- a pace goes into all cells from its own on -/
def ppF (b n m s : Nat) (v : Int) (f : IT) : IT := fun a k => if a = b + 4 + 3 * 3 ∧ n * wdK 3 + (1 + m) ≤ k ∧ k < n * wdK 3 + (1 + s) then v else f a k
theorem ppF_o {m s : Nat} {v : Int} {f : IT} {a k : Nat} (h : ¬ (a = b + 4 + 3 * 3 ∧ n * wdK 3 + (1 + m) ≤ k)) : ppF b n m s v f a k = f a k := by unfold ppF; rw [if_neg (by omega)]
theorem w_pc36 {f : IT} {Q : QT} (hρ : Fx ρ) (hb : b = 5 ∨ b = 30) (hn : n < 5) (hR : RWs b 3 n f) {m : Nat} {v : Int} (h5 : f 4 5 = v) (hX : V_X2_readPaces Q 62 [.ref 2, .ref (b + 2 + 3 * 3), .int (iz (m : Int)), .null] [] ρ (ppF b n m 6 v f) g) (s : Nat) (hms : m ≤ s) (hs : s ≤ 6) :
    V_X2_readPaces Q 36 [.ref 2, .ref (b + 2 + 3 * 3), .int (iz (m : Int)), .int (iz (s : Int))] [] ρ (ppF b n m s v f) g := by
  have hkd := kdR (i := 3) hb (by omega)
  have w7 : wdK 3 = 7 := rfl
  have m5 : mxK 3 = 5 := rfl
  have o5 : ppF b n m s v f 4 5 = v := (ppF_o (by omega)).trans h5
  by_cases e : s = 6
  · subst e
    refine V_il3n dX2_readPaces_36 ?_
    refine V_bipush dX2_readPaces_37 rfl ?_
    refine V_icmp_ge (tgt := 62) dX2_readPaces_39 rfl (by unfold ri; omega) (by unfold ri; omega) (fun b39 => ?_) (fun b39 => ?_)
    · exact V_weak (by repeat (first | exact wk_n | refine wk_c (Or.inr rfl) ?_ | refine wk_c (Or.inl rfl) ?_)) hX
    · exfalso; omega
  · have hRp : RWs b 3 n (ppF b n m s v f) := ⟨(ppF_o (by omega)).trans hR.1, (ppF_o (by omega)).trans hR.2.1, (ppF_o (by omega)).trans hR.2.2⟩
    have hput := c_rput (i := 3) (g := g) (v := v) hρ hb (by omega) hRp (by omega) (j := 1 + s) (by omega)
    have ec : ((1 + s : Nat) : Int) = 1 + (s : Int) := by omega
    rw [ec] at hput
    have es : u2 (ppF b n m s v f) (b + 4 + 3 * 3) (n * wdK 3 + (1 + s)) v = ppF b n m (s + 1) v f := by
      funext a k
      unfold u2 ppF
      by_cases z : a = b + 4 + 3 * 3 ∧ k = n * wdK 3 + (1 + s)
      · rw [if_pos z, if_pos (by omega)]
      · rw [if_neg z]
        by_cases z2 : a = b + 4 + 3 * 3 ∧ n * wdK 3 + (1 + m) ≤ k ∧ k < n * wdK 3 + (1 + s)
        · rw [if_pos z2, if_pos (by omega)]
        · rw [if_neg z2, if_neg (show ¬ (a = b + 4 + 3 * 3 ∧ n * wdK 3 + (1 + m) ≤ k ∧ k < n * wdK 3 + (1 + (s + 1))) by omega)]
    refine V_il3n dX2_readPaces_36 ?_
    refine V_bipush dX2_readPaces_37 rfl ?_
    refine V_icmp_ge (tgt := 62) dX2_readPaces_39 rfl (by unfold ri; omega) (by unfold ri; omega) (fun b39 => ?_) (fun b39 => ?_)
    · exfalso; omega
    · refine V_al1n dX2_readPaces_42 ?_
      refine V_iconst dX2_readPaces_43 ?_
      refine V_il3n dX2_readPaces_44 ?_
      refine V_iadd dX2_readPaces_45 ?_
      refine V_al0n dX2_readPaces_46 ?_
      refine V_getR kk2 (by decide) fl_X2_42 (fx_2_0 hρ) dX2_readPaces_47 ?_
      refine V_getI kk4 (by decide) fl_X2_115 o5 dX2_readPaces_50 ?_
      refine V_callV (as := [_, _]) ml_X2_137 im_X3_put se_X3_put hkd.1 (by decide) (kdlt hkd.1 (by decide)) dX2_readPaces_53 rfl rfl (by decide) (by decide) (Nat.le_of_ble_eq_true rfl) (by decide) (by decide) rfl (hput) ?_
      refine pq4 ?_
      refine V_inc3 dX2_readPaces_56 (by decide) rfl ?_
      refine V_goto (tgt := 36) dX2_readPaces_59 rfl ?_
      rw [es]
      exact w_pc36 hρ hb hn hR h5 hX (s + 1) (by omega) (by omega)
termination_by 6 - s
def plH (n m : Nat) (φ : IT) : Bool × IT := if m = 0 ∨ φ 104 8 = 3 then plnL n (7 - m) φ else (true, u2 φ 104 23 ((n : Int) + 1))
theorem plH_s {φ : IT} {m : Nat} (hm : m < 6) (h : m = 0 ∨ φ 104 8 = 3) (h122 : φ 122 (5 + n) = (m : Int)) : plH n m φ = thn (numF 1 9 φ) fun φ1 => plH n (m + 1) (u2 (u2 φ1 123 (6 * (5 + n) + m) (φ1 104 11)) 122 (5 + n) ((m : Int) + 1)) := by
  unfold plH
  rw [if_pos h, show 7 - m = (6 - m) + 1 by omega, plnL, if_neg (by omega)]
  cases c : (numF 1 9 φ).1 with
  | false => rw [thn_f c, thn_f c]
  | true =>
    rw [thn_t c, thn_t c]
    have e : (numF 1 9 φ).2 122 (5 + n) = (m : Int) := (numF_o (by omega)).trans h122
    rw [e, Int.toNat_natCast, u2_o (by omega), u2_o (by omega), show 7 - (m + 1) = 6 - m by omega]
    by_cases z : (numF 1 9 φ).2 104 8 = 3
    · rw [if_pos z, if_pos (Or.inr z)]
    · rw [if_neg z, if_neg (by omega)]
theorem w_pc2 {Q : QT} {f0 : IT} (hρ : Fx ρ) (hb : b = 5 ∨ b = 30) (hn : n < 5) (hR0 : RWs b 3 n f0) {R : Bool × IT}
    (hF : ∀ (f' φ' : IT), R = (false, φ') → FLm f' φ' → RowKf b 3 n f0 f' → Q (some (.int (iz (bz false)))) ρ f' g)
    (hT : ∀ (f' φ' : IT), R = (true, u2 φ' 104 23 ((n : Int) + 1)) → CUR f' φ' → PK φ' → RowKf b 3 n f0 f' → f' (b + 3 + 3 * 3) n = φ' 120 (5 + n) → f' (b + 4 + 3 * 3) (n * wdK 3 + 0) = φ' 121 (5 + n) → (∀ j, j < 6 → f' (b + 4 + 3 * 3) (n * wdK 3 + (1 + j)) = φ' 123 (6 * (5 + n) + if (j : Int) < φ' 122 (5 + n) then j else (φ' 122 (5 + n) - 1).toNat)) → Q (some (.int (iz (bz true)))) ρ f' g)
    (m : Nat) (hm : m ≤ 6) (f φ : IT) (hc : CUR f φ) (hK : PK φ) (hk : RowKf b 3 n f0 f) (h122 : φ 122 (5 + n) = (m : Int)) (hnm : f (b + 3 + 3 * 3) n = φ 120 (5 + n)) (h121 : f (b + 4 + 3 * 3) (n * wdK 3 + 0) = φ 121 (5 + n)) (hcl : 0 < m → ∀ j, j < 6 → f (b + 4 + 3 * 3) (n * wdK 3 + (1 + j)) = φ 123 (6 * (5 + n) + if j < m then j else m - 1)) (hRR : R = plH n m φ) :
    V_X2_readPaces Q 2 [.ref 2, .ref (b + 2 + 3 * 3), .int (iz (m : Int)), .null] [] ρ f g := by
  have w7 : wdK 3 = 7 := rfl
  have m5 : mxK 3 = 5 := rfl
  have hkd := kdR (i := 3) hb (by omega)
  obtain ⟨q1, q2, q3, -⟩ := hc.rr hK
  have ok : 0 < m → φ 104 8 ≠ 3 → Q (some (.int (iz (bz true)))) ρ f g := fun z1 z2 => by
    refine hT f φ (by rw [hRR]; unfold plH; rw [if_neg (by omega)]) hc hK hk hnm h121 (fun j hj => ?_)
    rw [hcl z1 j hj, h122]
    congr 2
    by_cases z : j < m
    · rw [if_pos z, if_pos (by omega)]
    · rw [if_neg z, if_neg (by omega)]; omega
  by_cases c3 : φ 104 8 = 3
  · by_cases e6 : m = 6
    · have en : R = (false, wrg 2 φ) := by
        rw [hRR]; unfold plH
        rw [if_pos (Or.inr c3), e6, show 7 - 6 = 0 + 1 from rfl, plnL, if_pos ⟨c3, by omega⟩]
      have e0 := q3.mpr c3
      refine V_il2n dX2_readPaces_2 ?_
      refine V_bipush dX2_readPaces_3 rfl ?_
      refine V_icmp_ge (tgt := 75) dX2_readPaces_5 rfl (by unfold ri; omega) (by unfold ri; omega) (fun b5 => ?_) (fun b5 => ?_)
      · refine V_al0n dX2_readPaces_75 ?_
        refine V_getR kk2 (by decide) fl_X2_42 (fx_2_0 hρ) dX2_readPaces_76 ?_
        refine V_getI kk4 (by decide) fl_X2_58 rfl dX2_readPaces_79 ?_
        refine V_if_ne (tgt := 93) dX2_readPaces_82 rfl (by unfold ri; omega) (fun b82 => ?_) (fun b82 => ?_)
        · exfalso; omega
        · refine V_al0n dX2_readPaces_85 ?_
          refine V_iconst dX2_readPaces_86 ?_
          refine V_callV (as := [_]) ml_X2_68 im_X2_refuse se_X2_refuse kk2 (by decide) (by decide) dX2_readPaces_87 rfl rfl (by decide) (by decide) (Nat.le_of_ble_eq_true rfl) (by decide) (by decide) rfl (c_refuse hρ) ?_
          refine pq4 ?_
          refine V_bt (tgt := 97) dX2_readPaces_90 rfl (fun b90 => ?_) (fun b90 => ?_)
          · refine V_iconst dX2_readPaces_97 ?_
            exact V_zreturn rfl (by first | exact Or.inl rfl | exact Or.inr rfl | (unfold bz; split <;> simp)) (hF _ _ en (rfF_fl hc.2.1.1) (hk.tr RowKf.rf2)) dX2_readPaces_98
          · cases b90
      · exfalso; omega
    · have hs := plH_s (n := n) (show m < 6 by omega) (Or.inr c3) h122
      have h22 : V_X2_readPaces Q 22 [.ref 2, .ref (b + 2 + 3 * 3), .int (iz (m : Int)), .null] [] ρ f g := by
        rw [hs] at hRR
        have hnum := c_isNumber (g := g) hρ hc hK (lo := 1) (hi := 9) (by omega) (by omega) (by unfold ri; omega) (by unfold ri; omega)
        cases en : (numF 1 9 φ).1 with
        | false =>
          rw [thn_f en] at hRR
          rw [en] at hnum
          refine V_al0n dX2_readPaces_22 ?_
          refine V_iconst dX2_readPaces_23 ?_
          refine V_bipush dX2_readPaces_24 rfl ?_
          refine V_callV (as := [_, _]) ml_X2_133 im_X2_isNumber se_X2_isNumber kk2 (by decide) (by decide) dX2_readPaces_26 rfl rfl (by decide) (by decide) (Nat.le_of_ble_eq_true rfl) (by decide) (by decide) rfl (hnum) ?_
          rintro r26 ρ26 f26 g26 ⟨rfl, s26_0, -, n2, s26_1⟩
          obtain rfl := s26_0.symm
          obtain rfl := s26_1.symm
          refine V_bf (tgt := 34) dX2_readPaces_29 rfl (fun b29 => ?_) (fun b29 => ?_)
          · cases b29
          · obtain ⟨w, rfl, ew⟩ := n2 rfl
            refine V_iconst dX2_readPaces_32 ?_
            exact V_zreturn rfl (by first | exact Or.inl rfl | exact Or.inr rfl | (unfold bz; split <;> simp)) (hF _ _ hRR (by rw [ew]; exact rfF_fl hc.2.1.1) (hk.tr RowKf.rf2)) dX2_readPaces_33
        | true =>
          rw [thn_t en] at hRR
          rw [en] at hnum
          have go : f 4 5 = φ 104 9 → (numF 1 9 φ).2 = tkF (u2 φ 104 11 (φ 104 9)) → V_X2_readPaces Q 62 [.ref 2, .ref (b + 2 + 3 * 3), .int (iz (m : Int)), .null] [] ρ (ppF b n m 6 (φ 104 9) f) g := by
            intro v5 vt
            have hg : (numF 1 9 φ).2 104 11 = φ 104 9 := by rw [vt, tkF_o (by omega), u2_s]
            rw [hg, vt] at hRR
            have hp2 : PRE f (tkF (u2 φ 104 11 (φ 104 9))) := hc.pre hK.1 (u2_row (by omega)) (u2_o (by omega)) (u2_o (by omega))
            have hK2 : PK (tkF (u2 φ 104 11 (φ 104 9))) := (hK.up (by omega) (by omega) (by omega)).tk
            have o2 : ∀ a k, ¬ (a = 104 ∧ 7 ≤ k ∧ k ≤ 11) → tkF (u2 φ 104 11 (φ 104 9)) a k = φ a k := fun a k z => by rw [tkF_o (by omega), u2_o (by omega)]
            generalize tkF (u2 φ 104 11 (φ 104 9)) = ψ at *
            have hp3 : PRE (ppF b n m 6 (φ 104 9) f) (u2 (u2 ψ 123 (6 * (5 + n) + m) (φ 104 9)) 122 (5 + n) ((m : Int) + 1)) := hp2.cg (fun k => ppF_o (by omega)) (fun k => ppF_o (by omega)) ((u2_row (by omega)).trans (u2_row (by omega))) (fun k z1 z2 => (u2_o (by omega)).trans (u2_o (by omega))) ⟨ppF_o (by omega), ppF_o (by omega)⟩
            have hK3 : PK (u2 (u2 ψ 123 (6 * (5 + n) + m) (φ 104 9)) 122 (5 + n) ((m : Int) + 1)) := (hK2.up (by omega) (by omega) (by omega)).up (by omega) (by omega) (by omega)
            have o3 : ∀ a k, ¬ (a = 122 ∧ k = 5 + n) → ¬ (a = 123 ∧ k = 6 * (5 + n) + m) → (u2 (u2 ψ 123 (6 * (5 + n) + m) (φ 104 9)) 122 (5 + n) ((m : Int) + 1)) a k = ψ a k := fun a k z1 z2 => by rw [u2_o z1, u2_o z2]
            have s3 : (u2 (u2 ψ 123 (6 * (5 + n) + m) (φ 104 9)) 122 (5 + n) ((m : Int) + 1)) 123 (6 * (5 + n) + m) = φ 104 9 := by rw [u2_o (by omega), u2_s]
            have t3 : (u2 (u2 ψ 123 (6 * (5 + n) + m) (φ 104 9)) 122 (5 + n) ((m : Int) + 1)) 122 (5 + n) = ((m + 1 : Nat) : Int) := by rw [u2_s]; omega
            generalize u2 (u2 ψ 123 (6 * (5 + n) + m) (φ 104 9)) 122 (5 + n) ((m : Int) + 1) = χ at *
            refine V_al0n dX2_readPaces_62 ?_
            refine V_getR kk2 (by decide) fl_X2_42 (fx_2_0 hρ) dX2_readPaces_63 ?_
            refine V_callV (as := []) ml_X2_55 im_X6_next se_X6_next kk4 (by decide) (by decide) dX2_readPaces_66 rfl rfl (by decide) (by decide) (Nat.le_of_ble_eq_true rfl) (by decide) (by decide) rfl (c_nextP hρ hp3) ?_
            rintro r66 ρ66 f66 g66 ⟨rfl, s66_0, k66, c66, s66_1⟩
            obtain rfl := s66_0.symm
            obtain rfl := s66_1.symm
            refine V_inc2 dX2_readPaces_69 (by decide) rfl ?_
            refine V_goto (tgt := 2) dX2_readPaces_72 rfl ?_
            refine w_pc2 hρ hb hn hR0 hF hT (m + 1) (by omega) f66 χ c66 hK3 (hk.tr (fun a k z1 z2 z3 z4 => by rw [k66 a k z2, ppF_o (by omega)])) t3 (by rw [k66 _ _ (by omega), ppF_o (by omega), o3 _ _ (by omega) (by omega), o2 _ _ (by omega)]; exact hnm) (by rw [k66 _ _ (by omega), ppF_o (by omega), o3 _ _ (by omega) (by omega), o2 _ _ (by omega)]; exact h121) (fun _ j hj => ?_) hRR
            rw [k66 _ _ (by omega)]
            by_cases z : j < m
            · rw [ppF_o (by omega), hcl (by omega) j hj, if_pos z, if_pos (by omega), o3 _ _ (by omega) (by omega), o2 _ _ (by omega)]
            · have ei : (if j < m + 1 then j else m + 1 - 1) = m := by split <;> omega
              rw [ei, s3]
              unfold ppF
              rw [if_pos (by omega)]
          refine V_al0n dX2_readPaces_22 ?_
          refine V_iconst dX2_readPaces_23 ?_
          refine V_bipush dX2_readPaces_24 rfl ?_
          refine V_callV (as := [_, _]) ml_X2_133 im_X2_isNumber se_X2_isNumber kk2 (by decide) (by decide) dX2_readPaces_26 rfl rfl (by decide) (by decide) (Nat.le_of_ble_eq_true rfl) (by decide) (by decide) rfl (hnum) ?_
          rintro r26 ρ26 f26 g26 ⟨rfl, s26_0, n1, -, s26_1⟩
          obtain rfl := s26_0.symm
          obtain rfl := s26_1.symm
          refine V_bf (tgt := 34) dX2_readPaces_29 rfl (fun b29 => ?_) (fun b29 => ?_)
          · obtain ⟨e26, v5, vr, v8, vt⟩ := n1 rfl
            obtain rfl := e26.symm
            refine V_il2n dX2_readPaces_34 ?_
            refine V_is3n dX2_readPaces_35 (by decide) rfl ?_
            have e0 : ppF b n m m (φ 104 9) f = f := by
              funext a k
              unfold ppF
              rw [if_neg (by omega)]
            have := w_pc36 hρ hb hn (hk.rws hb (by omega) hR0) v5 (go v5 vt) m (by omega) (by omega)
            rw [e0] at this
            exact this
          · cases b29
      have e0 := q3.mpr c3
      refine V_il2n dX2_readPaces_2 ?_
      refine V_bipush dX2_readPaces_3 rfl ?_
      refine V_icmp_ge (tgt := 75) dX2_readPaces_5 rfl (by unfold ri; omega) (by unfold ri; omega) (fun b5 => ?_) (fun b5 => ?_)
      · exfalso; omega
      · refine V_il2n dX2_readPaces_8 ?_
        refine V_if_eq (tgt := 22) dX2_readPaces_9 rfl (by unfold ri; omega) (fun b9 => ?_) (fun b9 => ?_)
        · exact h22
        · refine V_al0n dX2_readPaces_12 ?_
          refine V_getR kk2 (by decide) fl_X2_42 (fx_2_0 hρ) dX2_readPaces_13 ?_
          refine V_getI kk4 (by decide) fl_X2_58 rfl dX2_readPaces_16 ?_
          refine V_if_ne (tgt := 75) dX2_readPaces_19 rfl (by unfold ri; omega) (fun b19 => ?_) (fun b19 => ?_)
          · exfalso; omega
          · exact h22
  · have e0 : ¬ f 4 3 = 0 := fun z => c3 (q3.mp z)
    by_cases em : m = 0
    · have hs := plH_s (n := n) (show m < 6 by omega) (Or.inl em) h122
      have en : (numF 1 9 φ) = (false, wrg 1 φ) := by unfold numF; rw [if_pos c3]
      have eR : R = (false, wrg 1 φ) := by rw [hRR, hs, en, thn_f rfl]
      have hnum := c_isNumber (g := g) hρ hc hK (lo := 1) (hi := 9) (by omega) (by omega) (by unfold ri; omega) (by unfold ri; omega)
      rw [en] at hnum
      refine V_il2n dX2_readPaces_2 ?_
      refine V_bipush dX2_readPaces_3 rfl ?_
      refine V_icmp_ge (tgt := 75) dX2_readPaces_5 rfl (by unfold ri; omega) (by unfold ri; omega) (fun b5 => ?_) (fun b5 => ?_)
      · exfalso; omega
      · refine V_il2n dX2_readPaces_8 ?_
        refine V_if_eq (tgt := 22) dX2_readPaces_9 rfl (by unfold ri; omega) (fun b9 => ?_) (fun b9 => ?_)
        · refine V_al0n dX2_readPaces_22 ?_
          refine V_iconst dX2_readPaces_23 ?_
          refine V_bipush dX2_readPaces_24 rfl ?_
          refine V_callV (as := [_, _]) ml_X2_133 im_X2_isNumber se_X2_isNumber kk2 (by decide) (by decide) dX2_readPaces_26 rfl rfl (by decide) (by decide) (Nat.le_of_ble_eq_true rfl) (by decide) (by decide) rfl (hnum) ?_
          rintro r26 ρ26 f26 g26 ⟨rfl, s26_0, -, n2, s26_1⟩
          obtain rfl := s26_0.symm
          obtain rfl := s26_1.symm
          refine V_bf (tgt := 34) dX2_readPaces_29 rfl (fun b29 => ?_) (fun b29 => ?_)
          · cases b29
          · obtain ⟨w, rfl, ew⟩ := n2 rfl
            refine V_iconst dX2_readPaces_32 ?_
            exact V_zreturn rfl (by first | exact Or.inl rfl | exact Or.inr rfl | (unfold bz; split <;> simp)) (hF _ _ eR (by rw [show wrg 1 φ = wrg w φ from ew]; exact rfF_fl hc.2.1.1) (hk.tr RowKf.rf2)) dX2_readPaces_33
        · exfalso; omega
    · by_cases e6 : m = 6
      · refine V_il2n dX2_readPaces_2 ?_
        refine V_bipush dX2_readPaces_3 rfl ?_
        refine V_icmp_ge (tgt := 75) dX2_readPaces_5 rfl (by unfold ri; omega) (by unfold ri; omega) (fun b5 => ?_) (fun b5 => ?_)
        · refine V_al0n dX2_readPaces_75 ?_
          refine V_getR kk2 (by decide) fl_X2_42 (fx_2_0 hρ) dX2_readPaces_76 ?_
          refine V_getI kk4 (by decide) fl_X2_58 rfl dX2_readPaces_79 ?_
          refine V_if_ne (tgt := 93) dX2_readPaces_82 rfl (by unfold ri; omega) (fun b82 => ?_) (fun b82 => ?_)
          · refine V_iconst dX2_readPaces_93 ?_
            refine V_goto (tgt := 98) dX2_readPaces_94 rfl ?_
            exact V_zreturn rfl (by first | exact Or.inl rfl | exact Or.inr rfl | (unfold bz; split <;> simp)) (ok (by omega) c3) dX2_readPaces_98
          · exfalso; omega
        · exfalso; omega
      · refine V_il2n dX2_readPaces_2 ?_
        refine V_bipush dX2_readPaces_3 rfl ?_
        refine V_icmp_ge (tgt := 75) dX2_readPaces_5 rfl (by unfold ri; omega) (by unfold ri; omega) (fun b5 => ?_) (fun b5 => ?_)
        · exfalso; omega
        · refine V_il2n dX2_readPaces_8 ?_
          refine V_if_eq (tgt := 22) dX2_readPaces_9 rfl (by unfold ri; omega) (fun b9 => ?_) (fun b9 => ?_)
          · exfalso; omega
          · refine V_al0n dX2_readPaces_12 ?_
            refine V_getR kk2 (by decide) fl_X2_42 (fx_2_0 hρ) dX2_readPaces_13 ?_
            refine V_getI kk4 (by decide) fl_X2_58 rfl dX2_readPaces_16 ?_
            refine V_if_ne (tgt := 75) dX2_readPaces_19 rfl (by unfold ri; omega) (fun b19 => ?_) (fun b19 => ?_)
            · refine V_al0n dX2_readPaces_75 ?_
              refine V_getR kk2 (by decide) fl_X2_42 (fx_2_0 hρ) dX2_readPaces_76 ?_
              refine V_getI kk4 (by decide) fl_X2_58 rfl dX2_readPaces_79 ?_
              refine V_if_ne (tgt := 93) dX2_readPaces_82 rfl (by unfold ri; omega) (fun b82 => ?_) (fun b82 => ?_)
              · refine V_iconst dX2_readPaces_93 ?_
                refine V_goto (tgt := 98) dX2_readPaces_94 rfl ?_
                exact V_zreturn rfl (by first | exact Or.inl rfl | exact Or.inr rfl | (unfold bz; split <;> simp)) (ok (by omega) c3) dX2_readPaces_98
              · exfalso; omega
            · exfalso; omega
termination_by 6 - m
end CPLAN

