section CPLAN2
variable {ρ : RT} {g : JT} {b n : Nat}
theorem c_readPaces {f φ : IT} (hρ : Fx ρ) (hb : b = 5 ∨ b = 30) (hn : n < 5) (hR : RWs b 3 n f) (hc : CUR f φ) (hK : PK φ) (h122 : φ 122 (5 + n) = 0) (hnm : f (b + 3 + 3 * 3) n = φ 120 (5 + n)) (h121 : f (b + 4 + 3 * 3) (n * wdK 3 + 0) = φ 121 (5 + n)) :
    C_X2_readPaces [.ref 2, .ref (b + 2 + 3 * 3)] ρ f g (fun r ρ' f' g' => r = some (.int (iz (bz (plnL n 7 φ).1))) ∧ ρ' = ρ ∧ RowKf b 3 n f f' ∧ ((plnL n 7 φ).1 = true → CUR f' (plnL n 7 φ).2 ∧ PK (plnL n 7 φ).2 ∧ f' (b + 3 + 3 * 3) n = (plnL n 7 φ).2 120 (5 + n) ∧ ∀ j, j < 7 → f' (b + 4 + 3 * 3) (n * wdK 3 + j) = tcl (rdT (plnL n 7 φ).2) 3 n j) ∧ ((plnL n 7 φ).1 = false → FLm f' (plnL n 7 φ).2) ∧ g' = g) := by
  have e0 : plnL n 7 φ = plH n 0 φ := by unfold plH; rw [if_pos (Or.inl rfl)]
  have hkd := kdR (i := 3) hb (by omega)
  refine Ct.ofV (by decide) rfl (Nat.le_of_ble_eq_true rfl) ?_
  refine V_iconst dX2_readPaces_0 ?_
  refine V_is2n dX2_readPaces_1 (by decide) rfl ?_
  refine w_pc2 hρ hb hn hR (R := plnL n 7 φ) (fun f' φ' h1 h2 h3 => ?_) (fun f' φ' h1 h2 h3 h4 h5 h6 h7 => ?_) 0 (by omega) f φ hc hK RowKf.rf h122 hnm h121 (fun z => by omega) e0
  · rw [h1]; exact ⟨rfl, rfl, h3, (fun q => by (cases q)), fun _ => h2, rfl⟩
  · rw [h1]
    have hcu : CUR f' (u2 φ' 104 23 ((n : Int) + 1)) := h2.cg (fun _ => rfl) (fun _ => rfl) (u2_row (by omega)) (fun k z1 z2 => u2_o (by omega))
    have hpk : PK (u2 φ' 104 23 ((n : Int) + 1)) := h3.up (by omega) (by omega) (by omega)
    have hn2 : f' (b + 3 + 3 * 3) n = (u2 φ' 104 23 ((n : Int) + 1)) 120 (5 + n) := h5.trans (u2_o (by omega)).symm
    refine ⟨rfl, rfl, h4, fun _ => ⟨hcu, hpk, hn2, fun j hj => ?_⟩, (fun q => by (cases q)), rfl⟩
    show _ = tcl (rdT (u2 φ' 104 23 ((n : Int) + 1))) 3 n j
    simp only [tcl, show (3 : Nat) ≠ 0 from by decide, show (3 : Nat) ≠ 1 from by decide, show (3 : Nat) ≠ 2 from by decide, if_false, if_true]
    by_cases c0 : j = 0
    · subst c0
      rw [if_pos rfl, h6]
      show _ = u2 φ' 104 23 ((n : Int) + 1) 121 (5 + n)
      rw [u2_o (by omega)]
    · obtain ⟨i, rfl⟩ : ∃ i, j = 1 + i := ⟨j - 1, by omega⟩
      rw [if_neg c0, h7 i (by omega), show 1 + i - 1 = i by omega]
      unfold pce
      show _ = u2 φ' 104 23 ((n : Int) + 1) 123 (30 + (6 * n + if (i : Int) < u2 φ' 104 23 ((n : Int) + 1) 122 (5 + n) then i else (u2 φ' 104 23 ((n : Int) + 1) 122 (5 + n) - 1).toNat))
      rw [u2_o (by omega), u2_o (by omega), show ∀ x, 6 * (5 + n) + x = 30 + (6 * n + x) from fun x => by omega]
def planR (n : Nat) (φ : IT) : Bool × IT := thn (hdF 3 n φ) fun φ1 => thn (hpF n (φ1 104 22).toNat φ1) fun φ2 => thn (plnL n 7 φ2) lnE
theorem planR_F {φ : IT} (hn : φ 104 23 = (n : Int)) : thn (planF φ) lnE = planR n φ := by
  unfold planF planR hdF
  rw [show φ 104 (20 + 3) = φ 104 23 from rfl, show ((mxK 3 : Nat) : Int) = 5 from rfl]
  by_cases c : φ 104 23 = 5
  · rw [if_pos c, if_pos c, thn_f rfl, thn_f rfl]
  · rw [if_neg c, if_neg c, hn, Int.toNat_natCast]
    unfold planN
    rw [thn_as]
    show thn (nnF 120 5 n (tkF φ)) _ = thn (nnF 120 5 n (tkF φ)) _
    congr 1
    funext φ1
    unfold hpF
    by_cases c1 : φ1 104 8 ≠ 2
    · rw [if_pos c1, if_pos c1, thn_f rfl, thn_f rfl]
    · rw [if_neg c1, if_neg c1]
      by_cases c2 : fnd (φ1 116) 3 (φ1 104 22).toNat (φ1 104 9) < 0
      · rw [if_pos c2, if_pos c2, thn_f rfl, thn_f rfl]
      · rw [if_neg c2, if_neg c2, thn_tt]
theorem c_rowP {f φ : IT} (hρ : Fx ρ) (hb : b = 5 ∨ b = 30) (hn : φ 104 23 = (n : Int)) (hC : CT (rdT φ) b f) (hc : CUR f φ) (hG : Good φ) (hD : RD φ) :
    C_X2_readRow [.ref 2, .ref b, .int (iz 3)] ρ f g (fun r ρ' f' g' => r = some (.int (iz (bz (planR n φ).1))) ∧ ρ' = ρ ∧ LnP b (planR n φ) f f' ∧ (∀ k, f' b k = f b k ∧ f' (b + 17) k = f (b + 17) k) ∧ g' = g) := by
  have hi5 : 3 < 5 := by omega
  have hK := hG.1
  have w7 : wdK 3 = 7 := rfl
  have m5 : mxK 3 = 5 := rfl
  have hnm : n ≤ mxK 3 := by have := hG.2.cni hi5; have e : φ 104 (20 + 3) = φ 104 23 := rfl; omega
  obtain ⟨nh, hnh⟩ : ∃ k : Nat, φ 104 22 = (k : Int) := ⟨(φ 104 22).toNat, by have := hG.2.cni (i := 2) (by omega); have e : φ 104 (20 + 2) = φ 104 22 := rfl; omega⟩
  have hnh3 : nh ≤ 3 := by have := hG.2.cni (i := 2) (by omega); have e : φ 104 (20 + 2) = φ 104 22 := rfl; have m3 : mxK 2 = 3 := rfl; omega
  obtain ⟨hR, hN⟩ := hC.rws hi5 (n := n) hn
  obtain ⟨hR2, hN2⟩ := hC.rws (i := 2) (by omega) (n := nh) hnh
  have hP122 : ∀ k, k < n → φ 122 (5 + k) ≤ 6 := fun k hk => (hD.2.2.2.1 k (by rw [hn]; omega)).2.1.2
  have hkd := kdR hb hi5
  have bad : ∀ (f' φ' : IT), planR n φ = (false, φ') → FLm f' φ' → RowKf b 3 n f f' → (some (Value.int (iz (bz false))) = some (Value.int (iz (bz (planR n φ).1))) ∧ ρ = ρ ∧ LnP b (planR n φ) f f' ∧ (∀ k, f' b k = f b k ∧ f' (b + 17) k = f (b + 17) k) ∧ g = g) := fun f' φ' h1 h2 h3 => by
    obtain ⟨l1, l2, l3⟩ := h3.ln hb hi5
    rw [h1]
    exact ⟨rfl, rfl, ⟨l1, l2, (l3 4).1, (fun q => by (cases q)), fun _ => h2⟩, l3, rfl⟩
  refine Ct.ofV (by decide) rfl (Nat.le_of_ble_eq_true rfl) ?_
  refine w_rowA (i := 3) hρ hb hi5 hn hnm hR hN (hG.2.nmi hi5) hc hK (fun f' φ' h1 h2 h3 => bad f' φ' (by unfold planR; rw [h1, thn_f rfl]) h2 h3) ?_
  intro f1 φ1 hlt h1 hp1 hK1 hnm1 hz1 hk1
  have hR1 := hk1.rws hb hi5 hR
  refine w_row82 (i := 3) (φ0 := φ) (v3 := .null) (f0 := f1) (R := nmsF 3 n 0 0 φ1) hρ hb hi5 hlt hR1 (fun f' φ' h2 h3 h4 => by cases h2) ?_ 0 0 (by decide) f1 φ1 hp1 hK1 RowKf.rf rfl (fun j' hj' => by omega) (fun _ _ _ => rfl) rfl
  intro f4 φ4 h4 hp4 hK4 hk4 hnm4 hcl4 hz4
  have e41 : φ1 = φ4 := congrArg Prod.snd h4
  subst e41
  have o1 : ∀ a k, ¬ (a = 104 ∧ (k = 4 ∨ k = 5 ∨ 7 ≤ k ∧ k ≤ 11)) → ¬ (a = 120 ∧ k = 5 + n) → φ1 a k = φ a k := fun a k z1 z2 => by
    have e2 : φ1 = (hdF 3 n φ).2 := by rw [h1]
    rw [e2, hdF_o hi5 z1 z2]
  have e22 : φ1 104 22 = (nh : Int) := (o1 104 22 (by omega) (by omega)).trans hnh
  have eR0 : planR n φ = thn (hpF n nh φ1) fun φ2 => thn (plnL n 7 φ2) lnE := by unfold planR; rw [h1, thn_tt, e22, Int.toNat_natCast]
  have hk14 := hk1.tr hk4
  have hR34 := hk14.rws hb hi5 hR
  have hR24 : RWs b 2 nh f4 := ⟨(hk14 _ _ (by omega) (by omega) (by omega) (by omega)).trans hR2.1, (hk14 _ _ (by omega) (by omega) (by omega) (by omega)).trans hR2.2.1, (hk14 _ _ (by omega) (by omega) (by omega) (by omega)).trans hR2.2.2⟩
  have hN24 : ∀ k, k < nh → f4 (b + 3 + 3 * 2) k = φ1 116 (3 + k) := fun k hk => by rw [hk14 _ _ (by omega) (by omega) (by omega) (by omega), o1 _ _ (by omega) (by omega)]; exact hN2 k hk
  have hri2 : ∀ k, ri (φ1 116 k) := fun k => by rw [o1 _ _ (by omega) (by omega)]; exact hG.2.nmi (i := 2) (by omega) k
  have hH := c_readHold (g := g) hρ hb (by omega) hnh3 hR34 hR24 hN24 hri2 hp4 hK4
  have hname : f4 (b + 3 + 3 * 3) n = φ1 120 (5 + n) := hnm4.trans hnm1
  cases eh : (hpF n nh φ1).1 with
  | false =>
    have eR : planR n φ = (false, (hpF n nh φ1).2) := by rw [eR0, thn_f eh]
    rw [eh] at hH
    refine V_il2n dX2_readRow_147 ?_
    refine V_iconst dX2_readRow_148 ?_
    refine V_icmp_ne (tgt := 162) dX2_readRow_149 rfl (by unfold ri; omega) (by unfold ri; omega) (fun b149 => ?_) (fun b149 => ?_)
    · exfalso; omega
    · refine V_al0n dX2_readRow_152 ?_
      refine V_al1n dX2_readRow_153 ?_
      refine V_callV (as := [_]) ml_X2_141 im_X2_readHold se_X2_readHold kk2 (by decide) (by decide) dX2_readRow_154 rfl rfl (by decide) (by decide) (Nat.le_of_ble_eq_true rfl) (by decide) (by decide) rfl (hH) ?_
      rintro r154 ρ154 f154 g154 ⟨rfl, s154_0, y1, y2, y3, y4, s154_1⟩
      obtain rfl := s154_0.symm
      obtain rfl := s154_1.symm
      refine V_bf (tgt := 162) dX2_readRow_157 rfl (fun b157 => ?_) (fun b157 => ?_)
      · cases b157
      · refine V_iconst dX2_readRow_160 ?_
        exact V_zreturn rfl (by first | exact Or.inl rfl | exact Or.inr rfl | (unfold bz; split <;> simp)) (bad _ _ eR (y4 rfl) (hk14.tr y1)) dX2_readRow_161
  | true =>
    have eR1 : planR n φ = thn (plnL n 7 (hpF n nh φ1).2) lnE := by rw [eR0, thn_t eh]
    have ehv : (hpF n nh φ1).2 = u2 (tkF (u2 φ1 121 (5 + n) (fnd (φ1 116) 3 nh (φ1 104 9)))) 122 (5 + n) 0 := by
      unfold hpF at eh ⊢
      by_cases c1 : φ1 104 8 ≠ 2
      · rw [if_pos c1] at eh; cases eh
      · by_cases c2 : fnd (φ1 116) 3 nh (φ1 104 9) < 0
        · rw [if_neg c1, if_pos c2] at eh; cases eh
        · rw [if_neg c1, if_neg c2]
    have op : ∀ a k, ¬ (a = 104 ∧ 7 ≤ k ∧ k ≤ 10) → ¬ ((a = 121 ∨ a = 122) ∧ k = 5 + n) → (hpF n nh φ1).2 a k = φ1 a k := fun a k z1 z2 => by rw [ehv, u2_o (by omega), tkF_o z1, u2_o (by omega)]
    have hG1 : Good φ1 := by
      have e2 : φ1 = (hdF 3 n φ).2 := by rw [h1]
      rw [e2]
      unfold hdF
      split
      · exact hG.wrg
      · exact hG.tk.nn (Or.inr (Or.inr (Or.inr (Or.inl rfl))))
    have hRw2 : RwK (hpF n nh φ1).2 := by rw [ehv]; exact (hG1.2.up (by omega) (by omega)).tk.up (by omega) (by omega)
    have h22 : (hpF n nh φ1).2 122 (5 + n) = 0 := by rw [ehv, u2_s]
    rw [eh] at hH
    generalize (hpF n nh φ1).2 = φ2 at *
    have hgo : ∀ f5 : IT, RowKf b 3 n f f5 → f5 (b + 3 + 3 * 3) n = φ1 120 (5 + n) → PRE f5 φ2 → PK φ2 → f5 (b + 4 + 3 * 3) (n * wdK 3 + 0) = φ2 121 (5 + n) → V_X2_readRow (fun r ρ' f' g' => r = some (.int (iz (bz (planR n φ).1))) ∧ ρ' = ρ ∧ LnP b (planR n φ) f f' ∧ (∀ k, f' b k = f b k ∧ f' (b + 17) k = f (b + 17) k) ∧ g' = g) 162 [.ref 2, .ref b, .int (iz ((3 : Nat) : Int)), .ref (b + 2 + 3 * 3), .null] [] ρ f5 g := by
      intro f5 hk5 hn5 hp5 hK5 h5c
      have tail : ∀ f6 : IT, KT4 f5 f6 → CUR f6 φ2 → V_X2_readRow (fun r ρ' f' g' => r = some (.int (iz (bz (planR n φ).1))) ∧ ρ' = ρ ∧ LnP b (planR n φ) f f' ∧ (∀ k, f' b k = f b k ∧ f' (b + 17) k = f (b + 17) k) ∧ g' = g) 183 [.ref 2, .ref b, .int (iz ((3 : Nat) : Int)), .ref (b + 2 + 3 * 3), .null] [] ρ f6 g := by
        intro f6 k6 c6
        have hk6 : RowKf b 3 n f f6 := hk5.tr (RowKf.kt k6)
        have hPc := c_readPaces (g := g) hρ hb (by omega) (hk6.rws hb hi5 hR) c6 hK5 h22 (by rw [k6 _ _ (by omega), hn5]; exact (op _ _ (by omega) (by omega)).symm) (by rw [k6 _ _ (by omega)]; exact h5c)
        cases ep : (plnL n 7 φ2).1 with
        | false =>
          have eR : planR n φ = (false, (plnL n 7 φ2).2) := by rw [eR1, thn_f ep]
          rw [ep] at hPc
          refine V_al0n dX2_readRow_183 ?_
          refine V_al3n dX2_readRow_184 ?_
          refine V_callV (as := [_]) ml_X2_148 im_X2_readPaces se_X2_readPaces kk2 (by decide) (by decide) dX2_readRow_185 rfl rfl (by decide) (by decide) (Nat.le_of_ble_eq_true rfl) (by decide) (by decide) rfl (hPc) ?_
          rintro r185 ρ185 f185 g185 ⟨rfl, s185_0, y1, y2, y3, s185_1⟩
          obtain rfl := s185_0.symm
          obtain rfl := s185_1.symm
          refine V_bt (tgt := 209) dX2_readRow_188 rfl (fun b188 => ?_) (fun b188 => ?_)
          · refine V_iconst dX2_readRow_209 ?_
            exact V_zreturn rfl (by first | exact Or.inl rfl | exact Or.inr rfl | (unfold bz; split <;> simp)) (bad _ _ eR (y3 rfl) (hk6.tr y1)) dX2_readRow_210
          · cases b188
        | true =>
          have eR : planR n φ = lnE (plnL n 7 φ2).2 := by rw [eR1, thn_t ep]
          have hok := plnL_ok (n := n) (by omega) (f0 := φ2) 7 0 φ2 ⟨hK5, hRw2⟩ FP.rf h22 rfl
          obtain ⟨hG3, hFP, h3t⟩ := hok
          have h23 := (h3t ep).1
          rw [ep] at hPc
          generalize (plnL n 7 φ2).2 = φ3 at *
          have fin : ∀ f7 : IT, RowKf b 3 n f f7 → CUR f7 φ3 → PK φ3 → f7 (b + 3 + 3 * 3) n = φ3 120 (5 + n) → (∀ j, j < 7 → f7 (b + 4 + 3 * 3) (n * wdK 3 + j) = tcl (rdT φ3) 3 n j) → V_X2_readRow (fun r ρ' f' g' => r = some (.int (iz (bz (planR n φ).1))) ∧ ρ' = ρ ∧ LnP b (planR n φ) f f' ∧ (∀ k, f' b k = f b k ∧ f' (b + 17) k = f (b + 17) k) ∧ g' = g) 191 [.ref 2, .ref b, .int (iz ((3 : Nat) : Int)), .ref (b + 2 + 3 * 3), .null] [] ρ f7 g := by
            intro f7 hk7 c7 hK7 n7 cl7
            obtain ⟨l1, l2, l3⟩ := hk7.ln hb hi5
            have p7 := c7.pre (φ' := φ3) hK7.1 rfl rfl rfl
            have P4 : ∀ a k, ¬ (a = 104 ∧ 7 ≤ k ∧ k ≤ 10) → tkF φ3 a k = φ3 a k := fun a k z1 => tkF_o z1
            have o3 : ∀ a k, ¬ (a = 104 ∧ (k = 4 ∨ k = 5 ∨ 7 ≤ k ∧ k ≤ 11)) → ¬ PP n a k → φ3 a k = φ a k := fun a k z1 z2 => by
              have z3 := z2
              unfold PP at z3
              rw [hFP a k z1 z2, op a k (by omega) (by omega), o1 a k z1 (by omega)]
            refine w_row191 (i := 3) hρ hb hi5 c7 hK7 (hk7.rws hb hi5 hR) (fun s => ?_) (fun s => ?_)
            · have e2 : planR n φ = (true, tkF φ3) := by rw [eR]; unfold lnE; rw [if_pos s]
              have fo : ∀ a k, ¬ (a = b + 2 + 3 * 3 ∧ k = 4) → u2 f7 (b + 2 + 3 * 3) 4 ((n : Int) + 1) a k = f7 a k := fun a k z => u2_o z
              rw [e2]
              refine ⟨rfl, rfl, ⟨fun a k z1 z2 z3 z4 => (fo a k (by omega)).trans (l1 a k z1 z2 z3 z4), (fo 4 1 (by omega)).trans l2, (fo b 4 (by omega)).trans (l3 4).1, fun _ => ⟨p7.cg (fun k => fo 4 k (by omega)) (fun k => fo 1 k (by omega)) rfl (fun _ _ _ => rfl), ?_⟩, (fun q => by (cases q))⟩, fun k => ⟨(fo b k (by omega)).trans (l3 k).1, (fo (b + 17) k (by omega)).trans (l3 k).2⟩, rfl⟩
              have etc : ∀ j, tcl (rdT (tkF φ3)) 3 n j = tcl (rdT φ3) 3 n j := fun j => by
                have a1 : rdT (tkF φ3) 121 = rdT φ3 121 := funext fun k => by unfold rdT; rw [if_neg (by omega), if_neg (by omega), tkF_o (by omega)]
                have a2 : rdT (tkF φ3) 122 = rdT φ3 122 := funext fun k => by unfold rdT; rw [if_neg (by omega), if_neg (by omega), tkF_o (by omega)]
                have a3 : rdT (tkF φ3) 123 = rdT φ3 123 := funext fun k => by unfold rdT; rw [if_neg (by omega), if_neg (by omega), tkF_o (by omega)]
                simp [tcl, pce, a1, a2, a3]
              refine CT_close (φ' := tkF φ3) (i := 3) hb hi5 hC hn (fun j hj hji => ?_) ?_ ?_ (fun a k z1 z2 z3 => ?_) (fun _ => hP122) (fun a k z1 z2 z3 z4 z5 => ?_) u2_s ?_ (fun j hj => ?_)
              · rw [P4 _ _ (by omega)]; exact o3 _ _ (by omega) (by unfold PP; omega)
              · rw [P4 _ _ (by omega)]; exact h23
              · rw [P4 _ _ (by omega)]; exact o3 _ _ (by omega) (by unfold PP; omega)
              · have hz : ¬ PP n a k := fun q => z3 (by
                  unfold PP at q
                  have e1 : nmR 3 = 120 := rfl
                  have e2 : nmR (3 + 1) = 124 := rfl
                  refine ⟨by unfold rwK; omega, ?_⟩
                  rcases (show a = 120 ∨ a = 121 ∨ a = 122 ∨ a = 123 by omega) with e | e | e | e <;> subst e
                  · have : half 120 = 5 := rfl
                    rw [if_neg (by omega)]; omega
                  · have : half 121 = 5 := rfl
                    rw [if_neg (by omega)]; omega
                  · have : half 122 = 5 := rfl
                    rw [if_neg (by omega)]; omega
                  · have : half 123 = 30 := rfl
                    rw [if_pos rfl]; omega)
                rw [P4 _ _ (by omega)]; exact o3 _ _ (by omega) hz
              · rw [fo a k z3]; exact hk7 a k (by omega) (by omega) z4 z5
              · rw [fo _ _ (by omega), n7]
                show φ3 120 (5 + n) = tkF φ3 120 (5 + n)
                rw [P4 _ _ (by omega)]
              · rw [fo _ _ (by omega), etc]; exact cl7 j (by omega)
            · have e2 : planR n φ = (false, wrg 1 φ3) := by rw [eR]; unfold lnE; rw [if_neg (by rw [s]; exact Bool.false_ne_true)]
              exact bad _ _ e2 (rfF_fl c7.2.1.1) (hk7.tr RowKf.rf2)
          refine V_al0n dX2_readRow_183 ?_
          refine V_al3n dX2_readRow_184 ?_
          refine V_callV (as := [_]) ml_X2_148 im_X2_readPaces se_X2_readPaces kk2 (by decide) (by decide) dX2_readRow_185 rfl rfl (by decide) (by decide) (Nat.le_of_ble_eq_true rfl) (by decide) (by decide) rfl (hPc) ?_
          rintro r185 ρ185 f185 g185 ⟨rfl, s185_0, y1, y2, y3, s185_1⟩
          obtain rfl := s185_0.symm
          obtain rfl := s185_1.symm
          refine V_bt (tgt := 209) dX2_readRow_188 rfl (fun b188 => ?_) (fun b188 => ?_)
          · cases b188
          · obtain ⟨x1, x2, x3, x4⟩ := y2 rfl
            exact fin f185 (hk6.tr y1) x1 x2 x3 x4
      refine V_al0n dX2_readRow_162 ?_
      refine V_getR kk2 (by decide) fl_X2_42 (fx_2_0 hρ) dX2_readRow_163 ?_
      refine V_callV (as := []) ml_X2_55 im_X6_next se_X6_next kk4 (by decide) (by decide) dX2_readRow_166 rfl rfl (by decide) (by decide) (Nat.le_of_ble_eq_true rfl) (by decide) (by decide) rfl (c_nextP hρ hp5) ?_
      rintro r166 ρ166 f166 g166 ⟨rfl, s166_0, k166, c166, s166_1⟩
      obtain rfl := s166_0.symm
      obtain rfl := s166_1.symm
      refine V_il2n dX2_readRow_169 ?_
      refine V_if_ne (tgt := 178) dX2_readRow_170 rfl (by unfold ri; omega) (fun b170 => ?_) (fun b170 => ?_)
      · refine V_il2n dX2_readRow_178 ?_
        refine V_iconst dX2_readRow_179 ?_
        refine V_icmp_ne (tgt := 191) dX2_readRow_180 rfl (by unfold ri; omega) (by unfold ri; omega) (fun b180 => ?_) (fun b180 => ?_)
        · exfalso; omega
        · exact tail f166 k166 c166
      · exfalso; omega
    refine V_il2n dX2_readRow_147 ?_
    refine V_iconst dX2_readRow_148 ?_
    refine V_icmp_ne (tgt := 162) dX2_readRow_149 rfl (by unfold ri; omega) (by unfold ri; omega) (fun b149 => ?_) (fun b149 => ?_)
    · exfalso; omega
    · refine V_al0n dX2_readRow_152 ?_
      refine V_al1n dX2_readRow_153 ?_
      refine V_callV (as := [_]) ml_X2_141 im_X2_readHold se_X2_readHold kk2 (by decide) (by decide) dX2_readRow_154 rfl rfl (by decide) (by decide) (Nat.le_of_ble_eq_true rfl) (by decide) (by decide) rfl (hH) ?_
      rintro r154 ρ154 f154 g154 ⟨rfl, s154_0, y1, y2, y3, y4, s154_1⟩
      obtain rfl := s154_0.symm
      obtain rfl := s154_1.symm
      refine V_bf (tgt := 162) dX2_readRow_157 rfl (fun b157 => ?_) (fun b157 => ?_)
      · obtain ⟨x1, x2, x3⟩ := y3 rfl
        exact hgo f154 (hk14.tr y1) (y2.trans hname) x1 x2 x3
      · cases b157
end CPLAN2

