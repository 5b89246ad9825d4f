def PP (n : Nat) (a k : Nat) : Prop := (a = 104 ∧ k = 23) ∨ (120 ≤ a ∧ a ≤ 122 ∧ k = 5 + n) ∨ (a = 123 ∧ 6 * (5 + n) ≤ k)
theorem plnL_ok {n : Nat} (hn : n < 5) {f0 : IT} : ∀ (k m : Nat) (f : IT), Good f → FP (PP n) f0 f → f 122 (5 + n) = (m : Int) → k + m = 7 → Good (plnL n k f).2 ∧ FP (PP n) f0 (plnL n k f).2 ∧ ((plnL n k f).1 = true → (plnL n k f).2 104 23 = (n : Int) + 1 ∧ (plnL n k f).2 121 (5 + n) = f 121 (5 + n) ∧ (1 ≤ (plnL n k f).2 122 (5 + n) ∧ (plnL n k f).2 122 (5 + n) ≤ 6) ∧ ((∀ j : Nat, j < m → 1 ≤ f 123 (6 * (5 + n) + j) ∧ f 123 (6 * (5 + n) + j) ≤ 9) → ∀ j : Nat, (j : Int) < (plnL n k f).2 122 (5 + n) → 1 ≤ (plnL n k f).2 123 (6 * (5 + n) + j) ∧ (plnL n k f).2 123 (6 * (5 + n) + j) ≤ 9))
  | 0, m, f, h, hf, hm, hk => ⟨h, hf, fun q => by cases q⟩
  | k + 1, m, f, h, hf, hm, hk => by
    rw [plnL]
    split
    · exact ⟨h.wrg, hf.wrg, fun q => by cases q⟩
    · rename_i e6
      cases c : (numF 1 9 f).1 with
      | false => rw [thn_f c]; exact ⟨h.num, hf.num, fun q => by cases q⟩
      | true =>
        rw [thn_t c]
        have nn := numF_t c
        have hg := h.num (lo := 1) (hi := 9)
        have hff := hf.num (lo := 1) (hi := 9)
        have oo := fun a j q => numF_o (f := f) (lo := 1) (hi := 9) (b := a) (j := j) q
        generalize (numF 1 9 f).2 = A at *
        have e122 : A 122 (5 + n) = (m : Int) := (oo _ _ (by omega)).trans hm
        have hm6 : m ≤ 5 := by omega
        rw [e122, Int.toNat_natCast]
        have hG : Good (u2 (u2 A 123 (6 * (5 + n) + m) (A 104 11)) 122 (5 + n) ((m : Int) + 1)) := (hg.up (by omega) (by omega) (by omega)).up (by omega) (by omega) (by omega)
        have hF : FP (PP n) f0 (u2 (u2 A 123 (6 * (5 + n) + m) (A 104 11)) 122 (5 + n) ((m : Int) + 1)) := (hff.up (Or.inr (Or.inr ⟨rfl, by omega⟩))).up (Or.inr (Or.inl (by omega)))
        have row : (∀ j : Nat, j < m → 1 ≤ f 123 (6 * (5 + n) + j) ∧ f 123 (6 * (5 + n) + j) ≤ 9) → ∀ j : Nat, j < m + 1 → 1 ≤ u2 (u2 A 123 (6 * (5 + n) + m) (A 104 11)) 122 (5 + n) ((m : Int) + 1) 123 (6 * (5 + n) + j) ∧ u2 (u2 A 123 (6 * (5 + n) + m) (A 104 11)) 122 (5 + n) ((m : Int) + 1) 123 (6 * (5 + n) + j) ≤ 9 := fun hr j hj => by
          rw [u2_o (by omega)]
          by_cases e : j = m
          · rw [e, u2_s, nn.2.2.2]; exact nn.2.1
          · rw [u2_o (by omega), oo _ _ (by omega)]; exact hr j (by omega)
        have v121 : u2 (u2 A 123 (6 * (5 + n) + m) (A 104 11)) 122 (5 + n) ((m : Int) + 1) 121 (5 + n) = f 121 (5 + n) := by rw [u2_o (by omega), u2_o (by omega), oo _ _ (by omega)]
        have v122 : u2 (u2 A 123 (6 * (5 + n) + m) (A 104 11)) 122 (5 + n) ((m : Int) + 1) 122 (5 + n) = ((m + 1 : Nat) : Int) := by rw [u2_s]; omega
        generalize u2 (u2 A 123 (6 * (5 + n) + m) (A 104 11)) 122 (5 + n) ((m : Int) + 1) = B at *
        split
        · by_cases e5 : m = 5
          · subst e5
            have hk1 : k = 1 := by omega
            subst hk1
            obtain ⟨g1, g2, g3⟩ := plnL_ok hn 1 6 B hG hF v122 rfl
            refine ⟨g1, g2, fun q => ?_⟩
            obtain ⟨q1, q2, q3, q4⟩ := g3 q
            exact ⟨q1, q2.trans v121, q3, fun hr => q4 (row hr)⟩
          · obtain ⟨g1, g2, g3⟩ := plnL_ok hn k (m + 1) B hG hF v122 (by omega)
            refine ⟨g1, g2, fun q => ?_⟩
            obtain ⟨q1, q2, q3, q4⟩ := g3 q
            exact ⟨q1, q2.trans v121, q3, fun hr => q4 (row hr)⟩
        · refine ⟨hG.cnt (Or.inr (Or.inr (Or.inr (Or.inl ⟨rfl, by omega⟩)))), hF.up (Or.inl ⟨rfl, rfl⟩), fun _ => ⟨by simp only; rw [u2_s], by simp only; rw [u2_o (by omega)]; exact v121, by simp only; rw [u2_o (by omega), v122]; omega, fun hr j hj => ?_⟩⟩
          simp only at hj ⊢
          rw [u2_o (by omega), v122] at hj
          rw [u2_o (by omega)]
          exact row hr j (by omega)
theorem planF_ok {f : IT} (h : Good f) : Good (planF f).2 ∧ FP (PP (f 104 23).toNat) f (planF f).2 ∧ ((planF f).1 = true → f 104 23 < 5 ∧ (RD f → RD (planF f).2)) := by
  have hc := h.2.2.2.2.2.2.1
  have hc2 := h.2.2.2.2.2.1
  unfold planF
  split
  · exact ⟨h.wrg, FP.rf.wrg, fun q => by cases q⟩
  · rename_i e6
    obtain ⟨n, hn⟩ : ∃ n : Nat, f 104 23 = (n : Int) := ⟨(f 104 23).toNat, by omega⟩
    rw [hn, Int.toNat_natCast]
    have hn6 : n < 5 := by omega
    unfold planN
    have hg1 : Good (nnF 120 5 n (tkF f)).2 := h.tk.nn (by omega)
    have hf1 : FP (PP n) f (nnF 120 5 n (tkF f)).2 := FP.rf.tk.nn (Or.inr (Or.inl (by omega)))
    cases c : (nnF 120 5 n (tkF f)).1 with
    | false => rw [thn_f c]; exact ⟨hg1, hf1, fun q => by cases q⟩
    | true =>
      rw [thn_t c]
      generalize (nnF 120 5 n (tkF f)).2 = A at *
      split
      · exact ⟨hg1.wrg, hf1.wrg, fun q => by cases q⟩
      · split
        · exact ⟨hg1.wrg, hf1.wrg, fun q => by cases q⟩
        · rename_i e7 e8
          have hfr := fnd_rng (r := A 116) (o := 3) (n := (A 104 22).toNat) (x := A 104 9)
          have e22 : A 104 22 = f 104 22 := hf1 104 22 (by omega) (by unfold PP; omega)
          generalize fnd (A 116) 3 (A 104 22).toNat (A 104 9) = v at *
          have hG : Good (u2 (tkF (u2 A 121 (5 + n) v)) 122 (5 + n) 0) := ((hg1.up (by omega) (by omega) (by omega)).tk).up (by omega) (by omega) (by omega)
          have hF : FP (PP n) f (u2 (tkF (u2 A 121 (5 + n) v)) 122 (5 + n) 0) := ((hf1.up (Or.inr (Or.inl (by omega)))).tk).up (Or.inr (Or.inl (by omega)))
          obtain ⟨g1, g2, g3⟩ := plnL_ok hn6 (f0 := f) 7 0 _ hG hF (by rw [u2_s]; rfl) rfl
          refine ⟨g1, g2, fun q => ⟨by omega, fun H => ?_⟩⟩
          obtain ⟨q1, q2, q3, q4⟩ := g3 q
          have q4 := q4 (fun j hj => by omega)
          rw [u2_o (by omega), tkF_o (by omega), u2_s] at q2
          generalize (plnL n 7 (u2 (tkF (u2 A 121 (5 + n) v)) 122 (5 + n) 0)).2 = F at *
          obtain ⟨h1, h2, h3, h4, h5, h6, h7, h8⟩ := H
          have e : ∀ a k, a ≠ 104 → ¬ (120 ≤ a ∧ a ≤ 123) → F a k = f a k := fun a k h1 ha => g2 a k (by omega) (by unfold PP; omega)
          have e2 : ∀ k, 20 ≤ k → k ≠ 23 → F 104 k = f 104 k := fun k h1 ha => g2 104 k (by omega) (by unfold PP; omega)
          unfold RD
          rw [q1, e2 20 (by omega) (by omega), e2 21 (by omega) (by omega), e2 22 (by omega) (by omega), e2 24 (by omega) (by omega), e2 26 (by omega) (by omega), e2 27 (by omega) (by omega)]
          rw [hn, Int.toNat_natCast] at h4
          refine ⟨h1.cg (fun a k _ _ => e a k (by omega) (by omega)), h2.cg (fun a k _ _ => e a k (by omega) (by omega)), h3.cg (fun a k _ _ => e a k (by omega) (by omega)), fun k hk => ?_, h5.cg (fun a k _ _ => e a k (by omega) (by omega)), h6.cg (fun a k _ => e a k (by omega) (by omega)) (e2 25 (by omega) (by omega)) (e2 61 (by omega) (by omega)), h7, h8⟩
          by_cases ck : k = n
          · subst ck
            exact ⟨by omega, q3, q4⟩
          · have hk4 := h4 k (by omega)
            rw [g2 121 _ (by omega) (by unfold PP; omega), g2 122 _ (by omega) (by unfold PP; omega)]
            refine ⟨hk4.1, hk4.2.1, fun j hj => ?_⟩
            rw [g2 123 _ (by omega) (by unfold PP; omega)]
            exact hk4.2.2 j hj
/-! a law's line -/
def lawK (k : Nat) (f : IT) : Bool × IT := thn (sumF (u2 (tkF (u2 f 127 k 1)) 128 k (tkF (u2 f 127 k 1) 104 25))) fun f4 => (true, u2 f4 129 k (f4 104 25))
def lawF (f : IT) : Bool × IT :=
  if tkF f 104 8 ≠ 1 ∨ tkF f 104 9 < 10 ∨ 17 < tkF f 104 9 then (false, wrg 1 (tkF f))
  else if tkF f 127 (tkF f 104 9 - 2).toNat = 1 then (false, wrg 3 (tkF f))
  else lawK (tkF f 104 9 - 2).toNat (tkF f)
theorem c_lawLine {ρ : RT} {f : IT} {g : JT} (hρ : Fx ρ) (h : Good f) {lo : Nat} (h25 : f 104 25 = (lo : Int)) (h61 : f 104 61 = (lo : Int)) (h64 : lo ≤ 64) : C_X12_lawLine [.ref 104] ρ f g (fun r ρ' f' g' => r = some (.int (iz (bz (lawF f).1))) ∧ ρ' = ρ ∧ f' = (lawF f).2 ∧ g' = g) := by
  have hA := h.tk
  have h8 := hA.1.r8
  have a25 : tkF f 104 25 = (lo : Int) := (tkF_o (by omega)).trans h25
  have a61 : tkF f 104 61 = (lo : Int) := (tkF_o (by omega)).trans h61
  refine Ct.ofV (by decide) rfl (Nat.le_of_ble_eq_true rfl) ?_
  unfold lawF
  have X : (tkF f 104 8 ≠ 1 ∨ tkF f 104 9 < 10 ∨ 17 < tkF f 104 9) → V_X12_lawLine (fun r ρ' f' g' => r = some (.int (iz (bz (if tkF f 104 8 ≠ 1 ∨ tkF f 104 9 < 10 ∨ 17 < tkF f 104 9 then (false, wrg 1 (tkF f)) else if tkF f 127 (tkF f 104 9 - 2).toNat = 1 then (false, wrg 3 (tkF f)) else lawK (tkF f 104 9 - 2).toNat (tkF f)).1))) ∧ ρ' = ρ ∧ f' = (if tkF f 104 8 ≠ 1 ∨ tkF f 104 9 < 10 ∨ 17 < tkF f 104 9 then (false, wrg 1 (tkF f)) else if tkF f 127 (tkF f 104 9 - 2).toNat = 1 then (false, wrg 3 (tkF f)) else lawK (tkF f 104 9 - 2).toNat (tkF f)).2 ∧ g' = g) 30 [.ref 104, .null] [] ρ (tkF f) g := fun hx => by
    rw [if_pos hx]
    refine V_al0n dX12_lawLine_30 ?_
    refine V_iconst dX12_lawLine_31 ?_
    refine V_callV (as := [_]) ml_X12_196 im_X12_wrong se_X12_wrong kk104 (by decide) (by decide) dX12_lawLine_32 rfl rfl (by decide) (by decide) (Nat.le_of_ble_eq_true rfl) (by decide) (by decide) rfl (c_wrong) ?_
    refine pq4 ?_
    exact V_zreturn rfl (by first | exact Or.inl rfl | exact Or.inr rfl | (unfold bz; split <;> simp)) ⟨rfl, rfl, rfl, rfl⟩ dX12_lawLine_35
  refine V_al0n dX12_lawLine_0 ?_
  refine V_callV (as := []) ml_X12_206 im_X12_token se_X12_token kk104 (by decide) (by decide) dX12_lawLine_1 rfl rfl (by decide) (by decide) (Nat.le_of_ble_eq_true rfl) (by decide) (by decide) rfl (c_tok hρ h.1) ?_
  refine pq4 ?_
  refine V_al0n dX12_lawLine_4 ?_
  refine V_getI kk104 (by decide) fl_X12_172 rfl dX12_lawLine_5 ?_
  refine V_iconst dX12_lawLine_8 ?_
  refine V_icmp_ne (tgt := 30) dX12_lawLine_9 rfl (by first | exact h8.1 | (unfold ri; omega)) (by first | exact h8.1 | (unfold ri; omega)) (fun b9 => ?_) (fun b9 => ?_)
  · exact X (by omega)
  · refine V_al0n dX12_lawLine_12 ?_
    refine V_getI kk104 (by decide) fl_X12_183 rfl dX12_lawLine_13 ?_
    refine V_bipush dX12_lawLine_16 rfl ?_
    refine V_icmp_lt (tgt := 30) dX12_lawLine_18 rfl (by first | exact h8.2 | (unfold ri; omega)) (by first | exact h8.2 | (unfold ri; omega)) (fun b18 => ?_) (fun b18 => ?_)
    · exact X (by omega)
    · refine V_al0n dX12_lawLine_21 ?_
      refine V_getI kk104 (by decide) fl_X12_183 rfl dX12_lawLine_22 ?_
      refine V_bipush dX12_lawLine_25 rfl ?_
      refine V_icmp_le (tgt := 36) dX12_lawLine_27 rfl (by first | exact h8.2 | (unfold ri; omega)) (by first | exact h8.2 | (unfold ri; omega)) (fun b27 => ?_) (fun b27 => ?_)
      · obtain ⟨k, hk⟩ : ∃ k : Nat, tkF f 104 9 = (k : Int) + 2 := ⟨(tkF f 104 9 - 2).toNat, by omega⟩
        have hk8 : 8 ≤ k ∧ k ≤ 15 := by omega
        have ek : (tkF f 104 9 - 2).toNat = k := by omega
        rw [if_neg (by omega), ek]
        have c127 := (hA.2.2.1 k).2.2
        refine V_bipush dX12_lawLine_36 rfl ?_
        refine V_al0n dX12_lawLine_38 ?_
        refine V_getI kk104 (by decide) fl_X12_183 hk dX12_lawLine_39 ?_
        refine V_iadd dX12_lawLine_42 ?_
        refine V_bipush dX12_lawLine_43 rfl ?_
        refine V_isub dX12_lawLine_45 ?_
        refine V_is1n dX12_lawLine_46 (by decide) rfl ?_
        refine V_al0n dX12_lawLine_47 ?_
        refine V_getR kk104 (by decide) fl_X12_81 (fx_104_50 hρ) dX12_lawLine_48 ?_
        refine V_il1n dX12_lawLine_51 ?_
        refine V_zald (k := k) kk127 (by decide) (by first | rfl | omega) (by omega) (by first | decide | assumption | omega) rfl dX12_lawLine_52 ?_
        refine V_if_eq (tgt := 62) dX12_lawLine_53 rfl (by unfold ri; omega) (fun b53 => ?_) (fun b53 => ?_)
        · rw [if_neg (by omega)]
          refine V_al0n dX12_lawLine_62 ?_
          refine V_getR kk104 (by decide) fl_X12_81 (fx_104_50 hρ) dX12_lawLine_63 ?_
          refine V_il1n dX12_lawLine_66 ?_
          refine V_iconst dX12_lawLine_67 ?_
          refine V_zast (k := k) kk127 (by decide) (by first | rfl | omega) (by omega) (by first | decide | assumption | omega) (by first | exact Or.inl rfl | exact Or.inr rfl | (unfold bz; split <;> simp)) dX12_lawLine_68 ?_
          refine V_al0n dX12_lawLine_69 ?_
          refine V_callV (as := []) ml_X12_206 im_X12_token se_X12_token kk104 (by decide) (by decide) dX12_lawLine_70 rfl rfl (by decide) (by decide) (Nat.le_of_ble_eq_true rfl) (by decide) (by decide) rfl (c_tok hρ (hA.1.up (by omega) (by omega) (by omega))) ?_
          refine pq4 ?_
          refine V_al0n dX12_lawLine_73 ?_
          refine V_getR kk104 (by decide) fl_X12_84 (fx_104_51 hρ) dX12_lawLine_74 ?_
          refine V_il1n dX12_lawLine_77 ?_
          refine V_al0n dX12_lawLine_78 ?_
          refine V_getI kk104 (by decide) fl_X12_231 rfl dX12_lawLine_79 ?_
          refine V_iast (k := k) kk128 (by decide) (by first | rfl | omega) (by omega) (by first | decide | assumption | omega) dX12_lawLine_82 ?_
          refine V_al0n dX12_lawLine_83 ?_
          refine V_callV (as := []) ml_X12_315 im_X12_sumRead se_X12_sumRead kk104 (by decide) (by decide) dX12_lawLine_84 rfl rfl (by decide) (by decide) (Nat.le_of_ble_eq_true rfl) (by decide) (by decide) rfl (c_sumRead hρ (lo := lo) ((hA.fg (k := k) (x := 1) (by omega) (by omega)).1.tk.up (by omega) (by omega) (by omega)) (by rw [u2_o (by omega), tkF_o (by omega), u2_o (by omega)]; exact a25) (by rw [u2_o (by omega), tkF_o (by omega), u2_o (by omega)]; exact a61) h64) ?_
          refine pq4 ?_
          refine V_bf (tgt := 92) dX12_lawLine_87 rfl (fun b87 => ?_) (fun b87 => ?_)
          · refine V_al0n dX12_lawLine_92 ?_
            refine V_getR kk104 (by decide) fl_X12_87 (fx_104_52 hρ) dX12_lawLine_93 ?_
            refine V_il1n dX12_lawLine_96 ?_
            refine V_al0n dX12_lawLine_97 ?_
            refine V_getI kk104 (by decide) fl_X12_231 rfl dX12_lawLine_98 ?_
            refine V_iast (k := k) kk129 (by decide) (by first | rfl | omega) (by omega) (by first | decide | assumption | omega) dX12_lawLine_101 ?_
            refine V_iconst dX12_lawLine_102 ?_
            exact V_zreturn rfl (by first | exact Or.inl rfl | exact Or.inr rfl | (unfold bz; split <;> simp)) (by unfold lawK; rw [thn_t b87]; exact ⟨rfl, rfl, rfl, rfl⟩) dX12_lawLine_103
          · refine V_iconst dX12_lawLine_90 ?_
            exact V_zreturn rfl (by first | exact Or.inl rfl | exact Or.inr rfl | (unfold bz; split <;> simp)) (by unfold lawK; rw [thn_f b87]; exact ⟨rfl, rfl, rfl, rfl⟩) dX12_lawLine_91
        · refine V_al0n dX12_lawLine_56 ?_
          refine V_iconst dX12_lawLine_57 ?_
          refine V_callV (as := [_]) ml_X12_196 im_X12_wrong se_X12_wrong kk104 (by decide) (by decide) dX12_lawLine_58 rfl rfl (by decide) (by decide) (Nat.le_of_ble_eq_true rfl) (by decide) (by decide) rfl (c_wrong) ?_
          refine pq4 ?_
          exact V_zreturn rfl (by first | exact Or.inl rfl | exact Or.inr rfl | (unfold bz; split <;> simp)) (by rw [if_pos (by omega)]; exact ⟨rfl, rfl, rfl, rfl⟩) dX12_lawLine_61
      · exact X (by omega)

