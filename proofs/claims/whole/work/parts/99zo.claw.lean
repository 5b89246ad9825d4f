section CLAWR
variable {ρ : RT} {g : JT} {b : Nat}
theorem tcl_cg {T T' : TT} (h : ∀ a, 107 ≤ a → a ≤ 126 → T' a = T a) (i k j : Nat) : tcl T' i k j = tcl T i k j := by
  simp only [tcl, pce, h 108 (by omega) (by omega), h 109 (by omega) (by omega), h 110 (by omega) (by omega), h 111 (by omega) (by omega), h 113 (by omega) (by omega), h 114 (by omega) (by omega), h 115 (by omega) (by omega), h 117 (by omega) (by omega), h 118 (by omega) (by omega), h 119 (by omega) (by omega), h 121 (by omega) (by omega), h 122 (by omega) (by omega), h 123 (by omega) (by omega), h 125 (by omega) (by omega), h 126 (by omega) (by omega)]
theorem CT.srn {f φ : IT} (hC : CT (rdT φ) b f) (h2 : f (b + 17) 2 = φ 104 25) : SRn b f φ ∧ f (b + 17) 8 = φ 104 25 := by
  obtain ⟨c1, c2, c3, c4⟩ := hC.2.2.2
  exact ⟨⟨h2, fun i hi => c3 i hi, fun n hn => c4 n hn⟩, c1⟩
theorem c_readLaw {f φ : IT} (hρ : Fx ρ) (hb : b = 5 ∨ b = 30) (hC : CT (rdT φ) b f) (h2 : f (b + 17) 2 = φ 104 25) (hc : CUR f φ) (hG : Good φ) (hD : RD φ) :
    C_X2_readLaw [.ref 2, .ref (b + 17)] ρ f g (fun r ρ' f' g' => r = some (.int (iz (bz (thn (lawF φ) lnE).1))) ∧ ρ' = ρ ∧ LnP b (thn (lawF φ) lnE) f f' ∧ (∀ k, f' b k = f b k) ∧ ((thn (lawF φ) lnE).1 = true → f' (b + 17) 2 = (thn (lawF φ) lnE).2 104 25) ∧ g' = g) := by
  have hK := hG.1
  have hRW := hD.2.2.2.2.2.1
  obtain ⟨lo, h25, h61, h64⟩ := hRW.le
  obtain ⟨hN, hs8⟩ := hC.srn h2
  have hCL := hC.2.2.2.2.1
  have bad : ∀ (f' φ' : IT), thn (lawF φ) lnE = (false, φ') → FLm f' φ' → (∀ a k, a ≠ 2 → a ≠ 3 → ¬ (a = 4 ∧ 2 ≤ k) → ¬ (b + 17 ≤ a ∧ a ≤ b + 24) → f' a k = f a k) → (some (Value.int (iz (bz false))) = some (Value.int (iz (bz (thn (lawF φ) lnE).1))) ∧ ρ = ρ ∧ LnP b (thn (lawF φ) lnE) f f' ∧ (∀ k, f' b k = f b k) ∧ ((thn (lawF φ) lnE).1 = true → f' (b + 17) 2 = (thn (lawF φ) lnE).2 104 25) ∧ g = g) := fun f' φ' h1 h3 h4 => by
    rw [h1]
    exact ⟨rfl, rfl, ⟨fun a k z1 z2 z3 z4 => h4 a k z1 z2 (by omega) (by omega), h4 _ _ (by omega) (by omega) (by omega) (by omega), h4 _ _ (by omega) (by omega) (by omega) (by omega), (fun q => by (cases q)), fun _ => h3⟩, fun k => h4 _ _ (by omega) (by omega) (by omega) (by omega), (fun q => by (cases q)), rfl⟩
  refine Ct.ofV (by decide) rfl (Nat.le_of_ble_eq_true rfl) ?_
  have hp := hc.pre (φ' := φ) hK.1 rfl rfl rfl
  have hKt := hK.tk
  have hGt := hG.tk
  have to : ∀ a j, ¬ (a = 104 ∧ 7 ≤ j ∧ j ≤ 10) → tkF φ a j = φ a j := fun a j z => tkF_o z
  have eL : lawF φ = if tkF φ 104 8 ≠ 1 ∨ tkF φ 104 9 < 10 ∨ 17 < tkF φ 104 9 then (false, wrg 1 (tkF φ)) else if tkF φ 127 (tkF φ 104 9 - 2).toNat = 1 then (false, wrg 3 (tkF φ)) else lawK (tkF φ 104 9 - 2).toNat (tkF φ) := rfl
  generalize tkF φ = ψ at *
  have go : ∀ f1 : IT, KT4 f f1 → CUR f1 ψ → V_X2_readLaw (fun r ρ' f' g' => r = some (.int (iz (bz (thn (lawF φ) lnE).1))) ∧ ρ' = ρ ∧ LnP b (thn (lawF φ) lnE) f f' ∧ (∀ k, f' b k = f b k) ∧ ((thn (lawF φ) lnE).1 = true → f' (b + 17) 2 = (thn (lawF φ) lnE).2 104 25) ∧ g' = g) 7 [.ref 2, .ref (b + 17), .null] [] ρ f1 g := by
    intro f1 k1 hc1
    obtain ⟨q1, q2, -, -⟩ := hc1.rr hKt
    obtain ⟨lw1, lw2⟩ := hc1.lawk hKt
    by_cases cb : ψ 104 8 ≠ 1 ∨ ψ 104 9 < 10 ∨ 17 < ψ 104 9
    · have eR : thn (lawF φ) lnE = (false, wrg 1 ψ) := by rw [eL, if_pos cb, thn_f rfl]
      have hw := lw2 cb
      refine V_al0n dX2_readLaw_7 ?_
      refine V_getR kk2 (by decide) fl_X2_42 (fx_2_0 hρ) dX2_readLaw_8 ?_
      refine V_getI kk4 (by decide) fl_X2_73 rfl dX2_readLaw_11 ?_
      refine V_iconst dX2_readLaw_14 ?_
      refine V_isub dX2_readLaw_15 ?_
      refine V_is2n dX2_readLaw_16 (by decide) rfl ?_
      refine V_il2n dX2_readLaw_17 ?_
      refine V_if_lt (tgt := 27) dX2_readLaw_18 rfl (by unfold ri; omega) (fun b18 => ?_) (fun b18 => ?_)
      · refine V_al0n dX2_readLaw_27 ?_
        refine V_iconst dX2_readLaw_28 ?_
        refine V_callV (as := [_]) ml_X2_68 im_X2_refuse se_X2_refuse kk2 (by decide) (by decide) dX2_readLaw_29 rfl rfl (by decide) (by decide) (Nat.le_of_ble_eq_true rfl) (by decide) (by decide) rfl (c_refuse hρ) ?_
        refine pq4 ?_
        exact V_zreturn rfl (by first | exact Or.inl rfl | exact Or.inr rfl | (unfold bz; split <;> simp)) (bad _ _ eR (rfF_fl hc1.2.1.1) (fun a k z1 z2 z3 z4 => (rfF_o z1).trans (k1 a k z3))) dX2_readLaw_32
      · refine V_il2n dX2_readLaw_21 ?_
        refine V_bipush dX2_readLaw_22 rfl ?_
        refine V_icmp_le (tgt := 33) dX2_readLaw_24 rfl (by unfold ri; omega) (by unfold ri; omega) (fun b24 => ?_) (fun b24 => ?_)
        · exfalso; omega
        · refine V_al0n dX2_readLaw_27 ?_
          refine V_iconst dX2_readLaw_28 ?_
          refine V_callV (as := [_]) ml_X2_68 im_X2_refuse se_X2_refuse kk2 (by decide) (by decide) dX2_readLaw_29 rfl rfl (by decide) (by decide) (Nat.le_of_ble_eq_true rfl) (by decide) (by decide) rfl (c_refuse hρ) ?_
          refine pq4 ?_
          exact V_zreturn rfl (by first | exact Or.inl rfl | exact Or.inr rfl | (unfold bz; split <;> simp)) (bad _ _ eR (rfF_fl hc1.2.1.1) (fun a k z1 z2 z3 z4 => (rfF_o z1).trans (k1 a k z3))) dX2_readLaw_32
    · rw [if_neg cb] at eL
      obtain ⟨w, hw⟩ : ∃ w : Nat, ψ 104 9 = (w : Int) + 10 := ⟨(ψ 104 9 - 10).toNat, by omega⟩
      have hw8 : w < 8 := by omega
      have h46 : f1 4 6 = (w : Int) := by rw [lw1 cb]; omega
      have ek : (ψ 104 9 - 2).toNat = 8 + w := by omega
      rw [ek] at eL
      have h01 := (hGt.2.2.1 (8 + w)).2.2
      have c20 : ∀ k, f1 (b + 20) k = f (b + 20) k := fun k => k1 _ _ (by omega)
      have c21 : ∀ k, f1 (b + 21) k = f (b + 21) k := fun k => k1 _ _ (by omega)
      have r127 : rdT φ 127 w = ψ 127 (8 + w) := (to 127 (8 + w) (by omega)).symm
      have eiz : (w : Int) - 0 = (w : Int) := by omega
      by_cases c1 : ψ 127 (8 + w) = 1
      · have eR : thn (lawF φ) lnE = (false, wrg 3 ψ) := by rw [eL, if_pos c1, thn_f rfl]
        obtain ⟨l, m, l1, l2, l3, l4, -, -⟩ := hRW.2.2 w hw8 (by rw [← to 127 _ (by omega)]; exact c1)
        obtain ⟨x1, x2⟩ := (hCL w hw8).1 (r127.trans c1)
        have x3 : f1 (b + 20) w = (l : Int) := by rw [c20, x1]; exact l1
        have x4 : f1 (b + 21) w = (l : Int) + m := by rw [c21, x2]; exact l2
        have hh := c_phas (g := g) hρ hb hw8 x3 x4 (by unfold ri; omega) (by unfold ri; omega)
        rw [decide_eq_true (by omega)] at hh
        refine V_al0n dX2_readLaw_7 ?_
        refine V_getR kk2 (by decide) fl_X2_42 (fx_2_0 hρ) dX2_readLaw_8 ?_
        refine V_getI kk4 (by decide) fl_X2_73 h46 dX2_readLaw_11 ?_
        refine V_iconst dX2_readLaw_14 ?_
        refine V_isub dX2_readLaw_15 ?_
        refine V_is2n dX2_readLaw_16 (by decide) rfl ?_
        refine V_il2n dX2_readLaw_17 ?_
        refine V_if_lt (tgt := 27) dX2_readLaw_18 rfl (by unfold ri; omega) (fun b18 => ?_) (fun b18 => ?_)
        · exfalso; omega
        · refine V_il2n dX2_readLaw_21 ?_
          refine V_bipush dX2_readLaw_22 rfl ?_
          refine V_icmp_le (tgt := 33) dX2_readLaw_24 rfl (by unfold ri; omega) (by unfold ri; omega) (fun b24 => ?_) (fun b24 => ?_)
          · rw [eiz]
            refine V_al1n dX2_readLaw_33 ?_
            refine V_il2n dX2_readLaw_34 ?_
            refine V_callV (as := [_]) ml_X2_158 im_X1_has se_X1_has (kb_17 hb) (by decide) (kl_17 hb) dX2_readLaw_35 rfl rfl (by decide) (by decide) (Nat.le_of_ble_eq_true rfl) (by decide) (by decide) rfl (hh) ?_
            refine pq4 ?_
            refine V_bt (tgt := 47) dX2_readLaw_38 rfl (fun b38 => ?_) (fun b38 => ?_)
            · cases b38
            · refine V_al0n dX2_readLaw_41 ?_
              refine V_iconst dX2_readLaw_42 ?_
              refine V_callV (as := [_]) ml_X2_68 im_X2_refuse se_X2_refuse kk2 (by decide) (by decide) dX2_readLaw_43 rfl rfl (by decide) (by decide) (Nat.le_of_ble_eq_true rfl) (by decide) (by decide) rfl (c_refuse hρ) ?_
              refine pq4 ?_
              exact V_zreturn rfl (by first | exact Or.inl rfl | exact Or.inr rfl | (unfold bz; split <;> simp)) (bad _ _ eR (rfF_fl hc1.2.1.1) (fun a k z1 z2 z3 z4 => (rfF_o z1).trans (k1 a k z3))) dX2_readLaw_46
          · exfalso; omega
      · rw [if_neg c1] at eL
        have c0 : ψ 127 (8 + w) = 0 := by omega
        obtain ⟨x1, x2⟩ := (hCL w hw8).2 (r127.trans c0)
        have x3 : f1 (b + 20) w = 0 := by rw [c20, x1]
        have x4 : f1 (b + 21) w = 0 := by rw [c21, x2]
        have hh := c_phas (g := g) hρ hb hw8 x3 x4 (by unfold ri; omega) (by unfold ri; omega)
        rw [decide_eq_false (by omega)] at hh
        have hop := c_lopen (f := f1) (g := g) hρ hb hw8
        have n1 : f1 (b + 17) 2 = (lo : Int) := by rw [k1 _ _ (by omega), h2]; exact h25
        rw [n1] at hop
        unfold lawK at eL
        have hpr : PRE f1 (tkF (u2 ψ 127 (8 + w) 1)) := hc1.pre hKt.1 (u2_row (by omega)) (u2_o (by omega)) (u2_o (by omega))
        have hmu : mu (tkF (u2 ψ 127 (8 + w) 1)) ≤ 700 := by
          have hK1 : PK (u2 ψ 127 (8 + w) 1) := hKt.up (by omega) (by omega) (by omega)
          have := mu_tk hK1 (by rw [u2_o (by omega)]; omega)
          have := mu_701 hK1
          omega
        have hK2 : PK (tkF (u2 ψ 127 (8 + w) 1)) := (hKt.up (by omega) (by omega) (by omega)).tk
        have o2 : ∀ a j, ¬ (a = 104 ∧ 7 ≤ j ∧ j ≤ 10) → ¬ (a = 127 ∧ j = 8 + w) → tkF (u2 ψ 127 (8 + w) 1) a j = φ a j := fun a j z1 z2 => by rw [tkF_o z1, u2_o z2, to a j z1]
        have s2 : tkF (u2 ψ 127 (8 + w) 1) 127 (8 + w) = 1 := by rw [tkF_o (by omega), u2_s]
        generalize tkF (u2 ψ 127 (8 + w) 1) = χ at *
        have e25 : χ 104 25 = (lo : Int) := (o2 _ _ (by omega) (by omega)).trans h25
        rw [e25] at eL
        have oX : ∀ a j, ¬ (a = 104 ∧ 7 ≤ j ∧ j ≤ 10) → ¬ (a = 127 ∧ j = 8 + w) → ¬ (a = 128 ∧ j = 8 + w) → u2 χ 128 (8 + w) (lo : Int) a j = φ a j := fun a j z1 z2 z3 => by rw [u2_o z3, o2 a j z1 z2]
        have x25 : u2 χ 128 (8 + w) (lo : Int) 104 25 = (lo : Int) := (u2_o (by omega)).trans e25
        have x61 : u2 χ 128 (8 + w) (lo : Int) 104 61 = (lo : Int) := by rw [oX _ _ (by omega) (by omega) (by omega)]; exact h61
        have hKX : PK (u2 χ 128 (8 + w) (lo : Int)) := hK2.up (by omega) (by omega) (by omega)
        have fo2 : ∀ a j, ¬ (a = b + 20 ∧ j = w) → u2 f1 (b + 20) w (lo : Int) a j = f1 a j := fun a j z => u2_o z
        have hNX : SRn b (u2 f1 (b + 20) w (lo : Int)) (u2 χ 128 (8 + w) (lo : Int)) := hN.cg (by rw [fo2 _ _ (by omega), k1 _ _ (by omega)]) (fun k => by rw [fo2 _ _ (by omega), k1 _ _ (by omega)]) (fun k => by rw [fo2 _ _ (by omega), k1 _ _ (by omega)]) (fun k => by rw [fo2 _ _ (by omega), k1 _ _ (by omega)]) (by rw [x25, h25]) (funext fun k => oX _ _ (by omega) (by omega) (by omega)) (funext fun k => oX _ _ (by omega) (by omega) (by omega))
        have hpX : PRE (u2 f1 (b + 20) w (lo : Int)) (u2 χ 128 (8 + w) (lo : Int)) := hpr.cg (fun k => fo2 _ _ (by omega)) (fun k => fo2 _ _ (by omega)) (u2_row (by omega)) (fun k z1 z2 => u2_o (by omega))
        have h8X : u2 f1 (b + 20) w (lo : Int) (b + 17) 8 = u2 χ 128 (8 + w) (lo : Int) 104 61 := by rw [fo2 _ _ (by omega), k1 _ _ (by omega), hs8, x61]; exact h25
        have hmX : mu (u2 χ 128 (8 + w) (lo : Int)) ≤ 700 := by rw [mu_cg (f := χ) (u2_o (by omega)) (u2_o (by omega)) (u2_o (by omega))]; exact hmu
        have hex := c_readExpr (g := g) hρ hb hpX hKX hNX x25 x61 h64 h8X hmX
        obtain ⟨so1, so2, so3⟩ := sumF_ok hKX x25 x61 h64
        have b20 : u2 χ 128 (8 + w) (lo : Int) 128 (8 + w) = (lo : Int) := u2_s
        have b27 : u2 χ 128 (8 + w) (lo : Int) 127 (8 + w) = 1 := (u2_o (by omega)).trans s2
        generalize u2 χ 128 (8 + w) (lo : Int) = X at *
        have kf2 : ∀ a k, ¬ (a = 4 ∧ 2 ≤ k) → ¬ (a = b + 20 ∧ k = w) → u2 f1 (b + 20) w (lo : Int) a k = f a k := fun a k z1 z2 => (fo2 a k z2).trans (k1 a k z1)
        have v20 : u2 f1 (b + 20) w (lo : Int) (b + 20) w = (lo : Int) := u2_s
        generalize u2 f1 (b + 20) w (lo : Int) = f2 at *
        cases es : (sumF X).1 with
        | false =>
          have eR : thn (lawF φ) lnE = (false, (sumF X).2) := by rw [eL, thn_f es, thn_f rfl]
          rw [es] at hex
          refine V_al0n dX2_readLaw_7 ?_
          refine V_getR kk2 (by decide) fl_X2_42 (fx_2_0 hρ) dX2_readLaw_8 ?_
          refine V_getI kk4 (by decide) fl_X2_73 h46 dX2_readLaw_11 ?_
          refine V_iconst dX2_readLaw_14 ?_
          refine V_isub dX2_readLaw_15 ?_
          refine V_is2n dX2_readLaw_16 (by decide) rfl ?_
          refine V_il2n dX2_readLaw_17 ?_
          refine V_if_lt (tgt := 27) dX2_readLaw_18 rfl (by unfold ri; omega) (fun b18 => ?_) (fun b18 => ?_)
          · exfalso; omega
          · refine V_il2n dX2_readLaw_21 ?_
            refine V_bipush dX2_readLaw_22 rfl ?_
            refine V_icmp_le (tgt := 33) dX2_readLaw_24 rfl (by unfold ri; omega) (by unfold ri; omega) (fun b24 => ?_) (fun b24 => ?_)
            · rw [eiz]
              refine V_al1n dX2_readLaw_33 ?_
              refine V_il2n dX2_readLaw_34 ?_
              refine V_callV (as := [_]) ml_X2_158 im_X1_has se_X1_has (kb_17 hb) (by decide) (kl_17 hb) dX2_readLaw_35 rfl rfl (by decide) (by decide) (Nat.le_of_ble_eq_true rfl) (by decide) (by decide) rfl (hh) ?_
              refine pq4 ?_
              refine V_bt (tgt := 47) dX2_readLaw_38 rfl (fun b38 => ?_) (fun b38 => ?_)
              · refine V_al1n dX2_readLaw_47 ?_
                refine V_il2n dX2_readLaw_48 ?_
                refine V_callV (as := [_]) ml_X2_161 im_X1_open se_X1_open (kb_17 hb) (by decide) (kl_17 hb) dX2_readLaw_49 rfl rfl (by decide) (by decide) (Nat.le_of_ble_eq_true rfl) (by decide) (by decide) rfl (hop) ?_
                rintro r49 ρ49 f49 g49 ⟨rfl, s49_0, e49, s49_1⟩
                obtain rfl := s49_0.symm
                obtain rfl := s49_1.symm
                obtain rfl := e49.symm
                refine V_al0n dX2_readLaw_52 ?_
                refine V_al1n dX2_readLaw_53 ?_
                refine V_callV (as := [_]) ml_X2_162 im_X2_readExpression se_X2_readExpression kk2 (by decide) (by decide) dX2_readLaw_54 rfl rfl (by decide) (by decide) (Nat.le_of_ble_eq_true rfl) (by decide) (by decide) rfl (hex) ?_
                rintro r54 ρ54 f54 g54 ⟨rfl, s54_0, y1, y2, y3, s54_1⟩
                obtain rfl := s54_0.symm
                obtain rfl := s54_1.symm
                refine V_bt (tgt := 72) dX2_readLaw_57 rfl (fun b57 => ?_) (fun b57 => ?_)
                · refine V_iconst dX2_readLaw_72 ?_
                  exact V_zreturn rfl (by first | exact Or.inl rfl | exact Or.inr rfl | (unfold bz; split <;> simp)) (bad _ _ eR (y3 rfl) (fun a k z1 z2 z3 z4 => (y1 a k z1 z2 z3 (by omega) (by omega) (by omega) (by omega)).trans (kf2 a k z3 (by omega)))) dX2_readLaw_73
                · cases b57
              · cases b38
            · exfalso; omega
        | true =>
          obtain ⟨se, s59⟩ := so3 es
          rw [es] at hex
          have eR0 : thn (lawF φ) lnE = lnE (u2 (sumF X).2 129 (8 + w) ((sumF X).2 104 25)) := by rw [eL, thn_t es, thn_tt]
          generalize (sumF X).2 = S at *
          have eR : thn (lawF φ) lnE = (true, tkF (u2 S 129 (8 + w) (S 104 25))) := by
            rw [eR0]; unfold lnE
            rw [if_pos (by rw [sgnB_cg (f := S) (u2_o (by omega)) (u2_o (by omega))]; exact s59)]
          have fin : ∀ f3 : IT, SFr b f2 f3 → CUR f3 S → LSR b f3 S → (some (Value.int (iz (bz true))) = some (Value.int (iz (bz (thn (lawF φ) lnE).1))) ∧ ρ = ρ ∧ LnP b (thn (lawF φ) lnE) f (u2 f3 (b + 21) w (f3 (b + 17) 2)) ∧ (∀ k, (u2 f3 (b + 21) w (f3 (b + 17) 2)) b k = f b k) ∧ ((thn (lawF φ) lnE).1 = true → (u2 f3 (b + 21) w (f3 (b + 17) 2)) (b + 17) 2 = (thn (lawF φ) lnE).2 104 25) ∧ g = g) := by
            intro f3 y1 c3 l3
            have F1 : ∀ a k, a ≠ 2 → a ≠ 3 → ¬ (a = 4 ∧ 2 ≤ k) → a ≠ b + 17 → a ≠ b + 18 → a ≠ b + 19 → a ≠ b + 24 → ¬ ((a = b + 20 ∨ a = b + 21) ∧ k = w) → (u2 f3 (b + 21) w (f3 (b + 17) 2)) a k = f a k := fun a k z1 z2 z3 z4 z5 z6 z7 z8 => by rw [u2_o (by omega), y1 a k z1 z2 z3 z4 z5 z6 z7, kf2 a k z3 (by omega)]
            have f17 : ∀ a k, a ≠ b + 21 → (u2 f3 (b + 21) w (f3 (b + 17) 2)) a k = f3 a k := fun a k z => u2_o (by omega)
            have P : ∀ a k, ¬ (a = 104 ∧ 7 ≤ k ∧ k ≤ 10) → ¬ (a = 129 ∧ k = 8 + w) → tkF (u2 S 129 (8 + w) (S 104 25)) a k = S a k := fun a k z1 z2 => by rw [tkF_o z1, u2_o z2]
            have SX : ∀ a k, ¬ (a = 104 ∧ (k = 4 ∨ k = 5 ∨ 7 ≤ k ∧ k ≤ 11 ∨ k = 25 ∨ 58 ≤ k ∧ k ≤ 63)) → a ≠ 133 → a ≠ 134 → ¬ ((a = 130 ∨ a = 131 ∨ a = 132)) → ¬ ((a = 127 ∨ a = 128) ∧ k = 8 + w) → S a k = φ a k := fun a k z1 z2 z3 z4 z5 => by rw [so2 a k z1 z2 z3 (by omega), oX a k (by omega) (by omega) (by omega)]
            have p129 : tkF (u2 S 129 (8 + w) (S 104 25)) 129 (8 + w) = S 104 25 := by rw [tkF_o (by omega), u2_s]
            have hpf := c3.pre (φ' := u2 S 129 (8 + w) (S 104 25)) so1.1 (u2_row (by omega)) (u2_o (by omega)) (u2_o (by omega))
            have hsz : (u2 f3 (b + 21) w (f3 (b + 17) 2)) (b + 17) 2 = tkF (u2 S 129 (8 + w) (S 104 25)) 104 25 := by rw [f17 _ _ (by omega), P _ _ (by omega) (by omega)]; exact l3.1.1
            have S61 : S 104 61 = S 104 25 := by
              have := se.2.1.2.2.2.2.2.2.1
              rw [se.2.2] at this
              simp only [Int.toNat_zero, cnt] at this
              omega
            have v21 : (u2 f3 (b + 21) w (f3 (b + 17) 2)) (b + 21) w = S 104 25 := by rw [u2_s]; exact l3.1.1
            have v20f : (u2 f3 (b + 21) w (f3 (b + 17) 2)) (b + 20) w = (lo : Int) := by rw [f17 _ _ (by omega), y1 _ _ (by omega) (by omega) (by omega) (by omega) (by omega) (by omega) (by omega)]; exact v20
            have S128 : S 128 (8 + w) = (lo : Int) := by rw [so2 _ _ (by omega) (by omega) (by omega) (by omega)]; exact b20
            have S127 : S 127 (8 + w) = 1 := by rw [so2 _ _ (by omega) (by omega) (by omega) (by omega)]; exact b27
            have hL3 := l3.1
            have h38 : f3 (b + 17) 8 = S 104 61 := l3.2.2.2.2.2
            rw [eR]
            generalize hFF : u2 f3 (b + 21) w (f3 (b + 17) 2) = FF at *
            generalize tkF (u2 S 129 (8 + w) (S 104 25)) = G at *
            refine ⟨rfl, rfl, ⟨fun a k z1 z2 z3 z4 => F1 a k z1 z2 (by omega) (by omega) (by omega) (by omega) (by omega) (by omega), F1 _ _ (by omega) (by omega) (by omega) (by omega) (by omega) (by omega) (by omega) (by omega), F1 _ _ (by omega) (by omega) (by omega) (by omega) (by omega) (by omega) (by omega) (by omega), fun _ => ⟨hpf.cg (fun k => f17 _ _ (by omega)) (fun k => f17 _ _ (by omega)) rfl (fun _ _ _ => rfl) ⟨f17 _ _ (by omega), f17 _ _ (by omega)⟩, ?_⟩, (fun q => by (cases q))⟩, fun k => F1 _ _ (by omega) (by omega) (by omega) (by omega) (by omega) (by omega) (by omega) (by omega), fun _ => hsz, rfl⟩
            show CT (rdT G) b FF
            have rr : ∀ a, 107 ≤ a → a ≤ 126 → rdT G a = rdT φ a := fun a z1 z2 => funext fun k => by
              unfold rdT
              rw [if_neg (by omega), if_neg (by omega), P _ _ (by omega) (by omega), SX _ _ (by omega) (by omega) (by omega) (by omega) (by omega)]
            have r104 : ∀ i, i < 5 → rdT G 104 (12 + i) = rdT φ 104 (12 + i) := fun i hi => by rw [rdT_n, rdT_n, P _ _ (by omega) (by omega), SX _ _ (by omega) (by omega) (by omega) (by omega) (by omega)]
            have Fr : ∀ a k, b ≤ a → a < b + 17 → FF a k = f a k := fun a k z1 z2 => F1 _ _ (by omega) (by omega) (by omega) (by omega) (by omega) (by omega) (by omega) (by omega)
            refine ⟨fun i hi => ?_, fun i k hi hk => ?_, fun i k j hi hk hj => ?_, ?_, fun v hv => ?_, fun i hi => ?_, fun n hn => ?_⟩
            · rw [r104 i hi, Fr _ _ (by omega) (by omega), Fr _ _ (by omega) (by omega), Fr _ _ (by omega) (by omega)]; exact hC.1 i hi
            · rw [r104 i hi] at hk
              rw [Fr _ _ (by omega) (by omega), hC.2.1 i k hi hk, namT_r i hi, namT_r i hi]
              have hr := nmR_r i hi
              rw [P _ _ (by omega) (by omega), SX _ _ (by omega) (by omega) (by omega) (by omega) (by omega)]
            · rw [r104 i hi] at hk
              rw [Fr _ _ (by omega) (by omega), hC.2.2.1 i k j hi hk hj, tcl_cg rr]
            · show FF (b + 17) 8 = G 104 25
              rw [f17 _ _ (by omega), P _ _ (by omega) (by omega), h38, S61]
            · show (G 127 (8 + v) = 1 → FF (b + 20) v = G 128 (8 + v) ∧ FF (b + 21) v = G 129 (8 + v)) ∧ (G 127 (8 + v) = 0 → FF (b + 20) v = 0 ∧ FF (b + 21) v = 0)
              by_cases ev : v = w
              · subst ev
                rw [v20f, v21, p129, P 127 _ (by omega) (by omega), P 128 _ (by omega) (by omega), S127, S128]
                exact ⟨fun _ => ⟨rfl, rfl⟩, fun z => by omega⟩
              · rw [P 127 _ (by omega) (by omega), P 128 _ (by omega) (by omega), P 129 _ (by omega) (by omega), SX 127 _ (by omega) (by omega) (by omega) (by omega) (by omega), SX 128 _ (by omega) (by omega) (by omega) (by omega) (by omega), SX 129 _ (by omega) (by omega) (by omega) (by omega) (by omega), F1 (b + 20) _ (by omega) (by omega) (by omega) (by omega) (by omega) (by omega) (by omega) (by omega), F1 (b + 21) _ (by omega) (by omega) (by omega) (by omega) (by omega) (by omega) (by omega) (by omega)]
                exact hCL v hv
            · have hi2 : (i : Int) < S 104 25 := by rw [← P 104 25 (by omega) (by omega)]; exact hi
              show FF (b + 18) i = swp (G 130 (64 + i)) ∧ (G 130 (64 + i) ≤ 1 → FF (b + 19) i = G 131 (64 + i))
              rw [f17 _ _ (by omega), f17 _ _ (by omega), P _ _ (by omega) (by omega), P _ _ (by omega) (by omega)]
              exact hL3.2.1 i hi2
            · rw [f17 _ _ (by omega), hL3.2.2 n hn, us_iff, us_iff, P _ _ (by omega) (by omega), show G 130 = S 130 from funext fun k => P _ _ (by omega) (by omega), show G 131 = S 131 from funext fun k => P _ _ (by omega) (by omega)]
          refine V_al0n dX2_readLaw_7 ?_
          refine V_getR kk2 (by decide) fl_X2_42 (fx_2_0 hρ) dX2_readLaw_8 ?_
          refine V_getI kk4 (by decide) fl_X2_73 h46 dX2_readLaw_11 ?_
          refine V_iconst dX2_readLaw_14 ?_
          refine V_isub dX2_readLaw_15 ?_
          refine V_is2n dX2_readLaw_16 (by decide) rfl ?_
          refine V_il2n dX2_readLaw_17 ?_
          refine V_if_lt (tgt := 27) dX2_readLaw_18 rfl (by unfold ri; omega) (fun b18 => ?_) (fun b18 => ?_)
          · exfalso; omega
          · refine V_il2n dX2_readLaw_21 ?_
            refine V_bipush dX2_readLaw_22 rfl ?_
            refine V_icmp_le (tgt := 33) dX2_readLaw_24 rfl (by unfold ri; omega) (by unfold ri; omega) (fun b24 => ?_) (fun b24 => ?_)
            · rw [eiz]
              refine V_al1n dX2_readLaw_33 ?_
              refine V_il2n dX2_readLaw_34 ?_
              refine V_callV (as := [_]) ml_X2_158 im_X1_has se_X1_has (kb_17 hb) (by decide) (kl_17 hb) dX2_readLaw_35 rfl rfl (by decide) (by decide) (Nat.le_of_ble_eq_true rfl) (by decide) (by decide) rfl (hh) ?_
              refine pq4 ?_
              refine V_bt (tgt := 47) dX2_readLaw_38 rfl (fun b38 => ?_) (fun b38 => ?_)
              · refine V_al1n dX2_readLaw_47 ?_
                refine V_il2n dX2_readLaw_48 ?_
                refine V_callV (as := [_]) ml_X2_161 im_X1_open se_X1_open (kb_17 hb) (by decide) (kl_17 hb) dX2_readLaw_49 rfl rfl (by decide) (by decide) (Nat.le_of_ble_eq_true rfl) (by decide) (by decide) rfl (hop) ?_
                rintro r49 ρ49 f49 g49 ⟨rfl, s49_0, e49, s49_1⟩
                obtain rfl := s49_0.symm
                obtain rfl := s49_1.symm
                obtain rfl := e49.symm
                refine V_al0n dX2_readLaw_52 ?_
                refine V_al1n dX2_readLaw_53 ?_
                refine V_callV (as := [_]) ml_X2_162 im_X2_readExpression se_X2_readExpression kk2 (by decide) (by decide) dX2_readLaw_54 rfl rfl (by decide) (by decide) (Nat.le_of_ble_eq_true rfl) (by decide) (by decide) rfl (hex) ?_
                rintro r54 ρ54 f54 g54 ⟨rfl, s54_0, y1, y2, y3, s54_1⟩
                obtain rfl := s54_0.symm
                obtain rfl := s54_1.symm
                refine V_bt (tgt := 72) dX2_readLaw_57 rfl (fun b57 => ?_) (fun b57 => ?_)
                · cases b57
                · refine V_al1n dX2_readLaw_60 ?_
                  refine V_il2n dX2_readLaw_61 ?_
                  refine V_callV (as := [_]) ml_X2_165 im_X1_close se_X1_close (kb_17 hb) (by decide) (kl_17 hb) dX2_readLaw_62 rfl rfl (by decide) (by decide) (Nat.le_of_ble_eq_true rfl) (by decide) (by decide) rfl (c_lclose hρ hb hw8) ?_
                  refine pq4 ?_
                  refine V_bt (tgt := 72) dX2_readLaw_65 rfl (fun b65 => ?_) (fun b65 => ?_)
                  · cases b65
                  · refine V_iconst dX2_readLaw_68 ?_
                    refine V_goto (tgt := 73) dX2_readLaw_69 rfl ?_
                    exact V_zreturn rfl (by first | exact Or.inl rfl | exact Or.inr rfl | (unfold bz; split <;> simp)) (fin f54 y1 (y2 rfl).1 (y2 rfl).2) dX2_readLaw_73
              · cases b38
            · exfalso; omega
  refine V_al0n dX2_readLaw_0 ?_
  refine V_getR kk2 (by decide) fl_X2_42 (fx_2_0 hρ) dX2_readLaw_1 ?_
  refine V_callV (as := []) ml_X2_55 im_X6_next se_X6_next kk4 (by decide) (by decide) dX2_readLaw_4 rfl rfl (by decide) (by decide) (Nat.le_of_ble_eq_true rfl) (by decide) (by decide) rfl (c_nextP hρ hp) ?_
  rintro r4 ρ4 f4 g4 ⟨rfl, s4_0, k4, c4, s4_1⟩
  obtain rfl := s4_0.symm
  obtain rfl := s4_1.symm
  exact go f4 k4 c4
end CLAWR

