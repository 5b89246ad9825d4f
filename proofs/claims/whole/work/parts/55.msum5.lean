/-! a whole sum -/
theorem sgnB_cg {c : Int} {f F : IT} (h1 : F 104 8 = f 104 8) (h2 : F 104 9 = f 104 9) : sgnB c F = sgnB c f := by unfold sgnB; rw [h1, h2]
/-- how a sum stands between two tokens -/
def SI (lo : Nat) (f : IT) : Prop := PK f ∧ (f 104 62 = 0 ∨ f 104 62 = 1) ∧ (f 104 63 = 0 ∨ f 104 63 = 1) ∧ SJ lo (if f 104 62 = 1 then 0 else 1) 0 f
theorem leafF_ok {lo : Nat} {f : IT} (hK : PK f) (h62 : f 104 62 = 1) (h63 : f 104 63 = 0 ∨ f 104 63 = 1) (H : SJ lo 0 0 f) : PK (leafF f).2 ∧ SF lo f (leafF f).2 ∧ ((leafF f).1 = true → f 104 8 ≠ 0 ∧ SI lo (leafF f).2 ∧ mu (leafF f).2 < mu f) := by
  have hr := H.rng (by omega)
  have hW : ∀ w, PK (wrg w f) := fun w => (hK.up (by omega) (by omega) (by omega)).up (by omega) (by omega) (by omega)
  have done : ∀ F, PK F → f 104 8 ≠ 0 → F 104 6 = f 104 6 → F 104 7 = f 104 7 → F 104 8 = f 104 8 → (F 104 62 = 0 ∨ F 104 62 = 1) → (F 104 63 = 0 ∨ F 104 63 = 1) → SJ lo (if F 104 62 = 1 then 0 else 1) 0 F → SF lo f F → PK (tkF F) ∧ SF lo f (tkF F) ∧ (true = true → f 104 8 ≠ 0 ∧ SI lo (tkF F) ∧ mu (tkF F) < mu f) := fun F hp h8 e6 e7 e8 e62 e63 hs hf =>
    ⟨hp.tk, hf.tk, fun _ => ⟨h8, ⟨hp.tk, by rw [tkF_o (by omega)]; exact e62, by rw [tkF_o (by omega)]; exact e63, by rw [tkF_o (by omega)]; exact hs.tk⟩, by rw [← mu_cg e6 e7 e8]; exact mu_tk hp (by rw [e8]; exact h8)⟩⟩
  unfold leafF
  by_cases c1 : sgnB 40 f = true
  · rw [if_pos c1]
    have h8 : f 104 8 ≠ 0 := by unfold sgnB at c1; simp at c1; omega
    by_cases c2 : f 104 60 = 8
    · rw [if_pos c2]
      exact ⟨hW 2, SF.rf.wrg, fun h => by cases h⟩
    · rw [if_neg c2]
      refine done _ ((hK.up (by omega) (by omega) (by omega)).wts.up (by omega) (by omega) (by omega)) h8 ?_ ?_ ?_ ?_ ?_ ?_ ?_
      · unfold wtsF; rw [u2_o (by omega), u2_o (by omega), u2_o (by omega), u2_o (by omega)]
      · unfold wtsF; rw [u2_o (by omega), u2_o (by omega), u2_o (by omega), u2_o (by omega)]
      · unfold wtsF; rw [u2_o (by omega), u2_o (by omega), u2_o (by omega), u2_o (by omega)]
      · unfold wtsF; rw [u2_o (by omega), u2_o (by omega), u2_o (by omega), u2_o (by omega)]; exact Or.inr h62
      · rw [u2_s]; exact Or.inr rfl
      · have e : u2 (wtsF 0 (u2 f 104 60 (f 104 60 + 1))) 104 63 1 104 62 = 1 := by unfold wtsF; rw [u2_o (by omega), u2_o (by omega), u2_o (by omega), u2_o (by omega)]; exact h62
        rw [e, if_pos rfl]
        exact (H.push0 (by have := H.2.1; omega)).up (by omega) (by omega)
      · exact ((SF.rf.up (Or.inl ⟨rfl, by omega⟩)).wts).up (Or.inl ⟨rfl, by omega⟩)
  · rw [if_neg c1]
    by_cases c2 : keyB 20 f = true ∧ f 104 63 = 1
    · rw [if_pos c2]
      have h8 : f 104 8 ≠ 0 := by have := c2.1; unfold keyB at this; simp at this; omega
      cases c3 : (ctdF f).1 with
      | false =>
        rw [thn_f c3]
        exact ⟨hK.ct, SF.rf.ct, fun h => by cases h⟩
      | true =>
        rw [thn_t c3]
        have e := ctdF_t c3
        have hj := H.ct c3
        refine done _ hK.ct.wts h8 ?_ ?_ ?_ ?_ ?_ ?_ ?_
        · unfold wtsF; rw [u2_o (by omega), u2_o (by omega), e, u2_o (by omega)]
        · unfold wtsF; rw [u2_o (by omega), u2_o (by omega), e, u2_o (by omega)]
        · unfold wtsF; rw [u2_o (by omega), u2_o (by omega), e, u2_o (by omega)]
        · unfold wtsF; rw [u2_o (by omega), u2_o (by omega), e, u2_o (by omega)]; exact Or.inr h62
        · unfold wtsF; rw [u2_o (by omega), u2_o (by omega), e, u2_o (by omega)]; exact h63
        · have e2 : wtsF 2 (ctdF f).2 104 62 = 1 := by unfold wtsF; rw [u2_o (by omega), u2_o (by omega), e, u2_o (by omega)]; exact h62
          rw [e2, if_pos rfl]
          exact hj.pushN
        · exact SF.rf.ct.wts
    · rw [if_neg c2]
      by_cases c3 : nmtV f < 0 ∧ f 104 8 ≠ 3
      · rw [if_pos c3]
        exact ⟨hW 1, SF.rf.wrg, fun h => by cases h⟩
      · rw [if_neg c3]
        by_cases c4 : nmtV f < 0 ∧ 9999 < f 104 9
        · rw [if_pos c4]
          exact ⟨hW 2, SF.rf.wrg, fun h => by cases h⟩
        · rw [if_neg c4]
          have hn := nmtV_rng hK
          have h8 : f 104 8 ≠ 0 := by
            intro h0
            have : nmtV f = -1 := by unfold nmtV; rw [if_neg (by omega)]
            omega
          cases c5 : (ctdF f).1 with
          | false =>
            rw [thn_f c5]
            exact ⟨hK.ct, SF.rf.ct, fun h => by cases h⟩
          | true =>
            rw [thn_t c5]
            have e := ctdF_t c5
            have hj := H.ct c5
            have e9 : (ctdF f).2 104 9 = f 104 9 := by rw [e, u2_o (by omega)]
            have hl : (lo : Int) ≤ (ctdF f).2 104 25 := hj.2.2.2.1
            have k9 := hK.2.2.2.2.1
            have hpc := hK.ct
            have hsc : SF lo f (ctdF f).2 := SF.rf.ct
            generalize (ctdF f).2 = F at *
            refine done _ (hpc.grw.up (by omega) (by omega) (by omega)) h8 ?_ ?_ ?_ ?_ ?_ ?_ ?_
            · unfold grwF; (repeat rw [u2_o (by omega)]); rw [e, u2_o (by omega)]
            · unfold grwF; (repeat rw [u2_o (by omega)]); rw [e, u2_o (by omega)]
            · unfold grwF; (repeat rw [u2_o (by omega)]); rw [e, u2_o (by omega)]
            · rw [u2_s]; exact Or.inl rfl
            · unfold grwF; (repeat rw [u2_o (by omega)]); rw [e, u2_o (by omega)]; exact h63
            · rw [u2_s, if_neg (by omega)]
              refine SJ.up (hj.leaf ?_ ?_ ?_) (by omega) (by omega)
              · split <;> omega
              · intro hk
                split at hk
                · rename_i hneg; rw [if_pos hneg, e9]; have := k9 (Or.inr (by omega)); omega
                · cases hk
              · intro hk
                split at hk
                · cases hk
                · rename_i hneg; rw [if_neg hneg]; omega
            · exact (hsc.grw hl).up (Or.inl ⟨rfl, by omega⟩)
theorem sgnF_ok {lo : Nat} {f : IT} (hK : PK f) (h62 : f 104 62 = 0) (h63 : f 104 63 = 0 ∨ f 104 63 = 1) (H : SJ lo 1 0 f) : PK (sgnF f).2 ∧ SF lo f (sgnF f).2 ∧ ((sgnF f).1 = true → f 104 8 ≠ 0 ∧ SI lo (sgnF f).2 ∧ mu (sgnF f).2 < mu f) := by
  have done : ∀ F, PK F → f 104 8 ≠ 0 → F 104 6 = f 104 6 → F 104 7 = f 104 7 → F 104 8 = f 104 8 → (F 104 62 = 0 ∨ F 104 62 = 1) → (F 104 63 = 0 ∨ F 104 63 = 1) → SJ lo (if F 104 62 = 1 then 0 else 1) 0 F → SF lo f F → PK (tkF F) ∧ SF lo f (tkF F) ∧ (true = true → f 104 8 ≠ 0 ∧ SI lo (tkF F) ∧ mu (tkF F) < mu f) := fun F hp h8 e6 e7 e8 e62 e63 hs hf =>
    ⟨hp.tk, hf.tk, fun _ => ⟨h8, ⟨hp.tk, by rw [tkF_o (by omega)]; exact e62, by rw [tkF_o (by omega)]; exact e63, by rw [tkF_o (by omega)]; exact hs.tk⟩, by rw [← mu_cg e6 e7 e8]; exact mu_tk hp (by rw [e8]; exact h8)⟩⟩
  unfold sgnF
  by_cases c1 : sgnB 41 f = true ∧ 0 < f 104 60
  · rw [if_pos c1]
    have h8 : f 104 8 ≠ 0 := by have := c1.1; unfold sgnB at this; simp at this; omega
    obtain ⟨hj, hb, hs, hend⟩ := bndF_ok (le := 1) (by omega) H
    have b : ∀ k, k ≠ 25 → k ≠ 58 → k ≠ 59 → bndF 1 f 104 k = f 104 k := fun k h1 h2 h3 => hb 104 k (by omega) (by omega) (by omega)
    have hp := hb.pk hK
    generalize bndF 1 f = B at *
    have e60 := b 60 (by omega) (by omega) (by omega)
    have hz : 0 < B 104 58 ∧ B 133 (B 104 58 - 1).toNat = 0 := by
      have c6 := hj.2.2.2.2.2.1
      rcases hend with h0 | ⟨h1, h2⟩
      · rw [h0] at c6; simp [cnt] at c6; omega
      · exact ⟨h1, rnk_1 (hj.2.2.2.2.1 _ (by omega)) h2⟩
    refine done _ ((hp.up (by omega) (by omega) (by omega)).up (by omega) (by omega) (by omega)) h8 ?_ ?_ ?_ ?_ ?_ ?_ ?_
    · rw [u2_o (by omega), u2_o (by omega), b 6 (by omega) (by omega) (by omega)]
    · rw [u2_o (by omega), u2_o (by omega), b 7 (by omega) (by omega) (by omega)]
    · rw [u2_o (by omega), u2_o (by omega), b 8 (by omega) (by omega) (by omega)]
    · rw [u2_o (by omega), u2_o (by omega), b 62 (by omega) (by omega) (by omega)]; exact Or.inl h62
    · rw [u2_o (by omega), u2_o (by omega), b 63 (by omega) (by omega) (by omega)]; exact h63
    · have e : u2 (u2 B 104 58 (B 104 58 - 1)) 104 60 (B 104 60 - 1) 104 62 = 0 := by rw [u2_o (by omega), u2_o (by omega), b 62 (by omega) (by omega) (by omega)]; exact h62
      rw [e, if_neg (by omega)]
      exact hj.zero hz.1 hz.2
    · exact (hs.up (Or.inl ⟨rfl, by omega⟩)).up (Or.inl ⟨rfl, by omega⟩)
  · rw [if_neg c1]
    by_cases c2 : sgK f = 0
    · rw [if_pos c2]
      exact ⟨(hK.up (by omega) (by omega) (by omega)).up (by omega) (by omega) (by omega), SF.rf.wrg, fun h => by cases h⟩
    · rw [if_neg c2]
      have hkr := sgK_rng hK
      have h8 : f 104 8 ≠ 0 := fun h0 => c2 (by unfold sgK keyB sgnB; simp [h0])
      have hr1 := rnk_3 (k := sgK f) (by omega)
      have hbb := bndF_ok (lo := lo) (le := if rnk (sgK f) = 4 then 5 else rnk (sgK f)) (by split <;> omega) H
      generalize bndF (if rnk (sgK f) = 4 then 5 else rnk (sgK f)) f = B at *
      obtain ⟨hj, hb, hs, -⟩ := hbb
      have b : ∀ k, k ≠ 25 → k ≠ 58 → k ≠ 59 → B 104 k = f 104 k := fun k h1 h2 h3 => hb 104 k (by omega) (by omega) (by omega)
      have hp := hb.pk hK
      unfold sgnK
      split
      · exact ⟨(hp.up (by omega) (by omega) (by omega)).up (by omega) (by omega) (by omega), hs.wrg, fun h => by cases h⟩
      · cases c5 : (ctdF B).1 with
        | false =>
          rw [thn_f c5]
          exact ⟨hp.ct, hs.ct, fun h => by cases h⟩
        | true =>
          rw [thn_t c5]
          have e := ctdF_t c5
          have hj1 := hj.ct c5
          have hpc := hp.ct
          have hsc : SF lo f (ctdF B).2 := hs.ct
          generalize (ctdF B).2 = F at *
          refine done _ ((hpc.wts.up (by omega) (by omega) (by omega)).up (by omega) (by omega) (by omega)) h8 ?_ ?_ ?_ ?_ ?_ ?_ ?_
          · unfold wtsF; (repeat rw [u2_o (by omega)]); rw [e, u2_o (by omega), b 6 (by omega) (by omega) (by omega)]
          · unfold wtsF; (repeat rw [u2_o (by omega)]); rw [e, u2_o (by omega), b 7 (by omega) (by omega) (by omega)]
          · unfold wtsF; (repeat rw [u2_o (by omega)]); rw [e, u2_o (by omega), b 8 (by omega) (by omega) (by omega)]
          · rw [u2_o (by omega), u2_s]; exact Or.inr rfl
          · rw [u2_s]; split <;> simp
          · rw [u2_o (by omega), u2_s, if_pos rfl]
            exact ((hj1.pushB (by omega)).up (by omega) (by omega)).up (by omega) (by omega)
          · exact (hsc.wts.up (Or.inl ⟨rfl, by omega⟩)).up (Or.inl ⟨rfl, by omega⟩)
def sumR : Nat → IT → Bool × IT
  | 0, f => (false, f)
  | n + 1, f => if sgnB 59 f = true ∧ f 104 62 = 0 ∧ f 104 60 ≤ 0 then (true, bndF 1 f) else thn (if f 104 62 = 1 then leafF f else sgnF f) (sumR n)
def sumI (f : IT) : IT := u2 (u2 (u2 (u2 (u2 f 104 58 0) 104 59 0) 104 60 0) 104 62 1) 104 63 1
def sumF (f : IT) : Bool × IT := sumR (mu f + 1) (sumI f)
/-- what a sum leaves -/
def SE (lo : Nat) (f : IT) : Prop := PK f ∧ SJ lo 1 0 f ∧ f 104 58 = 0
theorem SE.end {lo : Nat} {f : IT} (h : SI lo f) (h62 : f 104 62 = 0) (h60 : f 104 60 ≤ 0) : SE lo (bndF 1 f) := by
  obtain ⟨hK, -, -, H⟩ := h
  rw [h62, if_neg (by omega)] at H
  obtain ⟨hj, hb, hs, hend⟩ := bndF_ok (le := 1) (by omega) H
  refine ⟨hb.pk hK, hj, ?_⟩
  rcases hend with h0 | ⟨h1, h2⟩
  · exact h0
  · exfalso
    have e60 := hb 104 60 (by omega) (by omega) (by omega)
    have hz := rnk_1 (hj.2.2.2.2.1 _ (by omega)) h2
    have c6 := hj.2.2.2.2.2.1
    obtain ⟨w, hw⟩ : ∃ w : Nat, bndF 1 f 104 58 = (w : Int) + 1 := ⟨(bndF 1 f 104 58 - 1).toNat, by omega⟩
    rw [hw, show ((w : Int) + 1 - 1).toNat = w by omega] at hz
    rw [hw, show ((w : Int) + 1).toNat = w + 1 by omega, cnt_s, hz] at c6
    have := cnt_rng (P := isZ) (r := bndF 1 f 133) w
    simp [isZ] at c6 this
    omega
theorem w_sum25 {Q : QT} {ρ : RT} {g : JT} (hρ : Fx ρ) {lo : Nat} {R : Bool × IT} (hQ : Q (some (.int (iz (bz R.1)))) ρ R.2 g) (n : Nat) (f : IT) (H : SI lo f) (hn : mu f < n) (hR : R = sumR n f) :
    V_X12_sumRead Q 25 [.ref 104] [] ρ f g := by
  obtain ⟨m, rfl⟩ : ∃ m, n = m + 1 := ⟨n - 1, by omega⟩
  obtain ⟨hK, h62, h63, hj⟩ := H
  have h8 := hK.r8
  have h60 := hj.2.1
  rw [sumR] at hR
  have X : ¬ (sgnB 59 f = true ∧ f 104 62 = 0 ∧ f 104 60 ≤ 0) → V_X12_sumRead Q 48 [.ref 104] [] ρ f g := fun hne => by
    rw [if_neg hne] at hR
    rcases h62 with e | e
    · rw [e, if_neg (by omega)] at hR hj
      have hok := sgnF_ok hK e h63 hj
      refine V_al0n dX12_sumRead_48 ?_
      refine V_getZ kk104 (by decide) fl_X12_374 rfl dX12_sumRead_49 ?_
      refine V_if_eq (tgt := 65) dX12_sumRead_52 rfl (by unfold ri; omega) (fun b52 => ?_) (fun b52 => ?_)
      · refine V_al0n dX12_sumRead_65 ?_
        refine V_callV (as := []) ml_X12_383 im_X12_signs se_X12_signs kk104 (by decide) (by decide) dX12_sumRead_66 rfl rfl (by decide) (by decide) (Nat.le_of_ble_eq_true rfl) (by decide) (by decide) rfl (c_signs hρ hK hj) ?_
        refine pq4 ?_
        refine V_bf (tgt := 25) dX12_sumRead_69 rfl (fun b69 => ?_) (fun b69 => ?_)
        · exact w_sum25 hρ hQ m _ (hok.2.2 b69).2.1 (by have := (hok.2.2 b69).2.2; omega) (by rw [hR, thn_t b69])
        · refine V_iconst dX12_sumRead_72 ?_
          exact V_zreturn rfl (by first | exact Or.inl rfl | exact Or.inr rfl | (unfold bz; split <;> simp)) (by rw [thn_f b69] at hR; rw [hR] at hQ; exact hQ) dX12_sumRead_73
      · exfalso; omega
    · rw [e, if_pos rfl] at hR hj
      have hok := leafF_ok hK e h63 hj
      refine V_al0n dX12_sumRead_48 ?_
      refine V_getZ kk104 (by decide) fl_X12_374 rfl dX12_sumRead_49 ?_
      refine V_if_eq (tgt := 65) dX12_sumRead_52 rfl (by unfold ri; omega) (fun b52 => ?_) (fun b52 => ?_)
      · exfalso; omega
      · refine V_al0n dX12_sumRead_55 ?_
        refine V_callV (as := []) ml_X12_380 im_X12_leafRead se_X12_leafRead kk104 (by decide) (by decide) dX12_sumRead_56 rfl rfl (by decide) (by decide) (Nat.le_of_ble_eq_true rfl) (by decide) (by decide) rfl (c_leafRead hρ hK hj h63) ?_
        refine pq4 ?_
        refine V_bt (tgt := 72) dX12_sumRead_59 rfl (fun b59 => ?_) (fun b59 => ?_)
        · refine V_iconst dX12_sumRead_72 ?_
          exact V_zreturn rfl (by first | exact Or.inl rfl | exact Or.inr rfl | (unfold bz; split <;> simp)) (by rw [thn_f b59] at hR; rw [hR] at hQ; exact hQ) dX12_sumRead_73
        · refine V_goto (tgt := 25) dX12_sumRead_62 rfl ?_
          exact w_sum25 hρ hQ m _ (hok.2.2 b59).2.1 (by have := (hok.2.2 b59).2.2; omega) (by rw [hR, thn_t b59])
  refine V_al0n dX12_sumRead_25 ?_
  refine V_bipush dX12_sumRead_26 rfl ?_
  refine V_callV (as := [_]) ml_X12_209 im_X12_isSign se_X12_isSign kk104 (by decide) (by decide) dX12_sumRead_28 rfl rfl (by decide) (by decide) (Nat.le_of_ble_eq_true rfl) (by decide) (by decide) rfl (c_isSign (by unfold ri; omega) h8.1 h8.2) ?_
  refine pq4 ?_
  refine V_bt (tgt := 48) dX12_sumRead_31 rfl (fun b31 => ?_) (fun b31 => ?_)
  · exact X (by first | (intro q; rw [b31] at q; exact Bool.false_ne_true q.1) | (intro q; omega))
  · refine V_al0n dX12_sumRead_34 ?_
    refine V_getZ kk104 (by decide) fl_X12_374 rfl dX12_sumRead_35 ?_
    refine V_if_ne (tgt := 48) dX12_sumRead_38 rfl (by unfold ri; omega) (fun b38 => ?_) (fun b38 => ?_)
    · exact X (by first | (intro q; rw [b31] at q; exact Bool.false_ne_true q.1) | (intro q; omega))
    · refine V_al0n dX12_sumRead_41 ?_
      refine V_getI kk104 (by decide) fl_X12_358 rfl dX12_sumRead_42 ?_
      refine V_if_le (tgt := 74) dX12_sumRead_45 rfl (by unfold ri; omega) (fun b45 => ?_) (fun b45 => ?_)
      · refine V_al0n dX12_sumRead_74 ?_
        refine V_iconst dX12_sumRead_75 ?_
        refine V_callV (as := [_]) ml_X12_377 im_X12_bind se_X12_bind kk104 (by decide) (by decide) dX12_sumRead_76 rfl rfl (by decide) (by decide) (Nat.le_of_ble_eq_true rfl) (by decide) (by decide) rfl (c_bind hρ (lo := lo) (by rw [b38, if_neg (by omega)] at hj; exact hj) (by omega)) ?_
        refine pq4 ?_
        refine V_iconst dX12_sumRead_79 ?_
        exact V_zreturn rfl (by first | exact Or.inl rfl | exact Or.inr rfl | (unfold bz; split <;> simp)) (by rw [if_pos ⟨b31, by omega, by omega⟩] at hR; rw [hR] at hQ; exact hQ) dX12_sumRead_80
      · exact X (by first | (intro q; rw [b31] at q; exact Bool.false_ne_true q.1) | (intro q; omega))
termination_by n
theorem sumI_si {lo : Nat} {f : IT} (hK : PK f) (h25 : f 104 25 = (lo : Int)) (h61 : f 104 61 = (lo : Int)) (h64 : lo ≤ 64) : SI lo (sumI f) ∧ SF lo f (sumI f) ∧ mu (sumI f) = mu f := by
  unfold sumI
  refine ⟨⟨((((hK.up (by omega) (by omega) (by omega)).up (by omega) (by omega) (by omega)).up (by omega) (by omega) (by omega)).up (by omega) (by omega) (by omega)).up (by omega) (by omega) (by omega), ?_, ?_, ?_⟩, ?_, mu_cg ?_ ?_ ?_⟩
  · rw [u2_o (by omega), u2_s]; exact Or.inr rfl
  · rw [u2_s]; exact Or.inr rfl
  · rw [u2_o (by omega), u2_s, if_pos rfl]
    unfold SJ
    have e58 : u2 (u2 (u2 (u2 (u2 f 104 58 0) 104 59 0) 104 60 0) 104 62 1) 104 63 1 104 58 = 0 := by (repeat rw [u2_o (by omega)]); rw [u2_s]
    have e59 : u2 (u2 (u2 (u2 (u2 f 104 58 0) 104 59 0) 104 60 0) 104 62 1) 104 63 1 104 59 = 0 := by (repeat rw [u2_o (by omega)]); rw [u2_s]
    have e60 : u2 (u2 (u2 (u2 (u2 f 104 58 0) 104 59 0) 104 60 0) 104 62 1) 104 63 1 104 60 = 0 := by (repeat rw [u2_o (by omega)]); rw [u2_s]
    have e61 : u2 (u2 (u2 (u2 (u2 f 104 58 0) 104 59 0) 104 60 0) 104 62 1) 104 63 1 104 61 = (lo : Int) := by (repeat rw [u2_o (by omega)]); exact h61
    have e25 : u2 (u2 (u2 (u2 (u2 f 104 58 0) 104 59 0) 104 60 0) 104 62 1) 104 63 1 104 25 = (lo : Int) := by (repeat rw [u2_o (by omega)]); exact h25
    rw [e58, e59, e60, e61, e25]
    simp only [Int.toNat_zero, Int.toNat_natCast, Nat.sub_self, cnt, stV, pst, hls, List.map_nil]
    refine ⟨by omega, by omega, by omega, by omega, fun i hi => by omega, trivial, by omega, by omega, trivial, trivial⟩
  · exact ((((SF.rf.up (Or.inl ⟨rfl, by omega⟩)).up (Or.inl ⟨rfl, by omega⟩)).up (Or.inl ⟨rfl, by omega⟩)).up (Or.inl ⟨rfl, by omega⟩)).up (Or.inl ⟨rfl, by omega⟩)
  · (repeat rw [u2_o (by omega)])
  · (repeat rw [u2_o (by omega)])
  · (repeat rw [u2_o (by omega)])
theorem c_sumRead {ρ : RT} {f : IT} {g : JT} (hρ : Fx ρ) (hK : PK f) {lo : Nat} (h25 : f 104 25 = (lo : Int)) (h61 : f 104 61 = (lo : Int)) (h64 : lo ≤ 64) : C_X12_sumRead [.ref 104] ρ f g (fun r ρ' f' g' => r = some (.int (iz (bz (sumF f).1))) ∧ ρ' = ρ ∧ f' = (sumF f).2 ∧ g' = g) := by
  have hs := sumI_si hK h25 h61 h64
  refine Ct.ofV (by decide) rfl (Nat.le_of_ble_eq_true rfl) ?_
  refine V_al0n dX12_sumRead_0 ?_
  refine V_iconst dX12_sumRead_1 ?_
  refine V_putI kk104 (by decide) fl_X12_343 rfl dX12_sumRead_2 ?_
  refine V_al0n dX12_sumRead_5 ?_
  refine V_iconst dX12_sumRead_6 ?_
  refine V_putI kk104 (by decide) fl_X12_340 rfl dX12_sumRead_7 ?_
  refine V_al0n dX12_sumRead_10 ?_
  refine V_iconst dX12_sumRead_11 ?_
  refine V_putI kk104 (by decide) fl_X12_358 rfl dX12_sumRead_12 ?_
  refine V_al0n dX12_sumRead_15 ?_
  refine V_iconst dX12_sumRead_16 ?_
  refine V_putZ kk104 (by decide) fl_X12_374 rfl (by first | exact Or.inl rfl | exact Or.inr rfl | (unfold bz; split <;> simp)) dX12_sumRead_17 ?_
  refine V_al0n dX12_sumRead_20 ?_
  refine V_iconst dX12_sumRead_21 ?_
  refine V_putZ kk104 (by decide) fl_X12_365 rfl (by first | exact Or.inl rfl | exact Or.inr rfl | (unfold bz; split <;> simp)) dX12_sumRead_22 ?_
  exact w_sum25 hρ ⟨rfl, rfl, rfl, rfl⟩ (mu f + 1) (sumI f) hs.1 (by rw [hs.2.2]; omega) rfl
theorem sumR_ok {lo : Nat} {f0 : IT} : ∀ (n : Nat) (f : IT), SI lo f → SF lo f0 f → PK (sumR n f).2 ∧ SF lo f0 (sumR n f).2 ∧ ((sumR n f).1 = true → SE lo (sumR n f).2 ∧ sgnB 59 (sumR n f).2 = true)
  | 0, f, h, hf => ⟨h.1, hf, fun q => by cases q⟩
  | n + 1, f, h, hf => by
    obtain ⟨hK, h62, h63, hj⟩ := h
    rw [sumR]
    by_cases e : sgnB 59 f = true ∧ f 104 62 = 0 ∧ f 104 60 ≤ 0
    · rw [if_pos e]
      have hE := SE.end ⟨hK, h62, h63, hj⟩ e.2.1 e.2.2
      rw [e.2.1, if_neg (by omega)] at hj
      have hb := bndF_ok (le := 1) (by omega) hj
      exact ⟨hE.1, hf.tr hb.2.2.1, fun _ => ⟨hE, (sgnB_cg (hb.2.1 104 8 (by omega) (by omega) (by omega)) (hb.2.1 104 9 (by omega) (by omega) (by omega))).trans e.1⟩⟩
    · rw [if_neg e]
      rcases h62 with q | q
      · rw [q, if_neg (by omega)]
        rw [q, if_neg (by omega)] at hj
        have hok := sgnF_ok hK q h63 hj
        cases c : (sgnF f).1 with
        | false => rw [thn_f c]; exact ⟨hok.1, hf.tr hok.2.1, fun q => by cases q⟩
        | true => rw [thn_t c]; exact sumR_ok n _ (hok.2.2 c).2.1 (hf.tr hok.2.1)
      · rw [q, if_pos rfl]
        rw [q, if_pos rfl] at hj
        have hok := leafF_ok hK q h63 hj
        cases c : (leafF f).1 with
        | false => rw [thn_f c]; exact ⟨hok.1, hf.tr hok.2.1, fun q => by cases q⟩
        | true => rw [thn_t c]; exact sumR_ok n _ (hok.2.2 c).2.1 (hf.tr hok.2.1)
theorem sumF_ok {lo : Nat} {f : IT} (hK : PK f) (h25 : f 104 25 = (lo : Int)) (h61 : f 104 61 = (lo : Int)) (h64 : lo ≤ 64) : PK (sumF f).2 ∧ SF lo f (sumF f).2 ∧ ((sumF f).1 = true → SE lo (sumF f).2 ∧ sgnB 59 (sumF f).2 = true) := by
  have hs := sumI_si hK h25 h61 h64
  exact sumR_ok _ _ hs.1 hs.2.1

