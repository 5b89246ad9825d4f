section CSIGN
variable {ρ : RT} {g : JT} {b : Nat}
theorem sgK_cls {f φ : IT} (hc : CUR f φ) (hK : PK φ) : ((sgK φ = 0 ∧ (f 4 3 < 3 ∨ 14 < f 4 3)) ∨ (3 ≤ sgK φ ∧ sgK φ ≤ 14 ∧ f 4 3 = swp (sgK φ))) ∧ (f 4 3 = 16 ↔ sgnB 41 φ = true) := by
  obtain ⟨v0, v1, v2, v3, v4, v5, v6⟩ := hc.2.2
  obtain ⟨-, k8, k9, k1, -, k5⟩ := hK
  unfold ckK cwK at v1
  unfold csK at v4
  refine ⟨?_, ?_⟩
  · generalize hs : sgK φ = s
    unfold sgK keyB sgnB at hs
    simp only [decide_eq_true_eq] at hs
    rcases (show φ 104 8 = 0 ∨ φ 104 8 = 1 ∨ φ 104 8 = 2 ∨ φ 104 8 = 3 ∨ φ 104 8 = 4 ∨ φ 104 8 = 5 ∨ φ 104 8 = 6 by omega) with e | e | e | e | e | e | e
    · have hz := (v0 e).1; (repeat' split at hs) <;> omega
    · have hz := (v1 e).1; have := k1 e; unfold swp; (repeat' split at hs) <;> (repeat' split at hz) <;> (repeat' split) <;> omega
    · have hz := (v2 e).1; (repeat' split at hs) <;> omega
    · have hz := (v3 e).1; (repeat' split at hs) <;> omega
    · have hz := (v4 e).1; unfold swp; (repeat' split at hs) <;> (repeat' split at hz) <;> (repeat' split) <;> omega
    · have hz := (v5 e).1; have := k5 e; unfold swp; (repeat' split at hs) <;> (repeat' split) <;> omega
    · have hz := (v6 e).1; (repeat' split at hs) <;> omega
  · unfold sgnB
    rw [decide_eq_true_iff]
    rcases (show φ 104 8 = 0 ∨ φ 104 8 = 1 ∨ φ 104 8 = 2 ∨ φ 104 8 = 3 ∨ φ 104 8 = 4 ∨ φ 104 8 = 5 ∨ φ 104 8 = 6 by omega) with e | e | e | e | e | e | e
    · have hz := (v0 e).1; omega
    · have hz := (v1 e).1; have := k1 e; (repeat' split at hz) <;> omega
    · have hz := (v2 e).1; omega
    · have hz := (v3 e).1; omega
    · have hz := (v4 e).1; (repeat' split at hz) <;> omega
    · have hz := (v5 e).1; have := k5 e; omega
    · have hz := (v6 e).1; omega
theorem w_rb87 {f0 f B : IT} (hρ : Fx ρ) (hb : b = 5 ∨ b = 30) (hF : SFr b f0 f) (hc : CUR f B) (hK : PK B) {lo : Nat} (H : SJ lo 1 0 B) (hS : LSR b f B) {k : Int} (hk : 3 ≤ k ∧ k ≤ 14) {c : Nat} (c1 : cwt k = (c : Int)) (c2 : c < 16) (c3 : LVt c = rnk k) :
    V_X2_readBehindValue (fun r ρ' f' g' => r = some (.int (iz (bz (sgnK k B).1))) ∧ ρ' = ρ ∧ LVP b (sgnK k B) f0 f' ∧ g' = g) 87 [.ref 2, .ref (b + 17), .int (iz (c : Int)), .int (iz (LVt c))] [] ρ f g := by
  obtain ⟨rg1, rg2, rg3⟩ := hS.rng H (by omega)
  have lr := LV_r c c2
  have s58 := hS.2.1.1
  have s60 := hS.2.2.1
  have s63 := hS.2.2.2.2.1
  have s61 := hS.2.2.2.2.2
  obtain ⟨w, hw⟩ : ∃ w : Nat, B 104 58 = (w : Int) := ⟨(B 104 58).toNat, by omega⟩
  have e2 : f 2 2 = (w : Int) := s58.trans hw
  by_cases z : rnk k = 4 ∧ 0 < B 104 58 ∧ rnk (B 133 (B 104 58 - 1).toNat) = 4
  · have eR : sgnK k B = (false, wrg 1 B) := by unfold sgnK; rw [if_pos z]
    rw [eR]
    obtain ⟨w', rfl⟩ : ∃ w', w = w' + 1 := ⟨w - 1, by omega⟩
    have et : (B 104 58 - 1).toNat = w' := by omega
    rw [et] at z
    obtain ⟨d, d1, d2, d3, d4⟩ := cwt_e (H.2.2.2.2.1 w' (by omega))
    have f3 : f 3 w' = (d : Int) := (hS.2.1.2 w' (by omega)).trans d1
    refine V_il3n dX2_readBehindValue_87 ?_
    refine V_iconst dX2_readBehindValue_88 ?_
    refine V_icmp_ne (tgt := 124) dX2_readBehindValue_89 rfl (by unfold ri; omega) (by unfold ri; omega) (fun b89 => ?_) (fun b89 => ?_)
    · exfalso; omega
    · refine V_al0n dX2_readBehindValue_92 ?_
      refine V_getI kk2 (by decide) fl_X2_17 e2 dX2_readBehindValue_93 ?_
      refine V_if_le (tgt := 124) dX2_readBehindValue_96 rfl (by unfold ri; omega) (fun b96 => ?_) (fun b96 => ?_)
      · exfalso; omega
      · refine V_gets (j := 4) (by decide) fs_X2_186 dX2_readBehindValue_99 ?_
        refine V_al0n dX2_readBehindValue_102 ?_
        refine V_getR kk2 (by decide) fl_X2_13 (fx_2_1 hρ) dX2_readBehindValue_103 ?_
        refine V_al0n dX2_readBehindValue_106 ?_
        refine V_getI kk2 (by decide) fl_X2_17 e2 dX2_readBehindValue_107 ?_
        refine V_iconst dX2_readBehindValue_110 ?_
        refine V_isub dX2_readBehindValue_111 ?_
        refine V_iald (k := w') kk3 (by decide) (by first | rfl | omega) (by omega) (by first | decide | assumption | omega) f3 dX2_readBehindValue_112 ?_
        refine V_stld (j := 4) (by decide) rfl (show d < 16 from d2) (st_4 d d2) dX2_readBehindValue_113 ?_
        refine V_iconst dX2_readBehindValue_114 ?_
        refine V_icmp_ne (tgt := 124) dX2_readBehindValue_115 rfl (by unfold ri; omega) (by unfold ri; omega) (fun b115 => ?_) (fun b115 => ?_)
        · exfalso; omega
        · refine V_al0n dX2_readBehindValue_118 ?_
          refine V_iconst dX2_readBehindValue_119 ?_
          refine V_callV (as := [_]) ml_X2_68 im_X2_refuse se_X2_refuse kk2 (by decide) (by decide) dX2_readBehindValue_120 rfl rfl (by decide) (by decide) (Nat.le_of_ble_eq_true rfl) (by decide) (by decide) rfl (c_refuse hρ) ?_
          refine pq4 ?_
          exact V_zreturn rfl (by first | exact Or.inl rfl | exact Or.inr rfl | (unfold bz; split <;> simp)) ⟨rfl, rfl, LVP.no hF.rff (rfF_fl hc.2.1.1), rfl⟩ dX2_readBehindValue_123
  · have eR : sgnK k B = thn (ctdF B) fun f1 => (true, tkF (u2 (u2 (wtsF k f1) 104 62 1) 104 63 (if rnk k < 3 then 1 else 0))) := by unfold sgnK; rw [if_neg z]
    have h124 : V_X2_readBehindValue (fun r ρ' f' g' => r = some (.int (iz (bz (sgnK k B).1))) ∧ ρ' = ρ ∧ LVP b (sgnK k B) f0 f' ∧ g' = g) 124 [.ref 2, .ref (b + 17), .int (iz (c : Int)), .int (iz (LVt c))] [] ρ f g := by
      have hck := c_countKnot (ρ := ρ) (g := g) (f := f) hb rfl (by unfold ri; omega)
      by_cases c64 : B 104 61 = 64
      · have ect : ctdF B = (false, wrg 2 B) := by unfold ctdF; rw [if_pos c64]
        rw [decide_eq_false (by omega), if_neg (by omega)] at hck
        rw [eR, ect, thn_f rfl]
        refine V_al1n dX2_readBehindValue_124 ?_
        refine V_callV (as := []) ml_X2_177 im_X1_countKnot se_X1_countKnot (kb_17 hb) (by decide) (kl_17 hb) dX2_readBehindValue_125 rfl rfl (by decide) (by decide) (Nat.le_of_ble_eq_true rfl) (by decide) (by decide) rfl (hck) ?_
        refine pq4 ?_
        refine V_bf (tgt := 137) dX2_readBehindValue_128 rfl (fun b128 => ?_) (fun b128 => ?_)
        · cases b128
        · refine V_al0n dX2_readBehindValue_131 ?_
          refine V_iconst dX2_readBehindValue_132 ?_
          refine V_callV (as := [_]) ml_X2_68 im_X2_refuse se_X2_refuse kk2 (by decide) (by decide) dX2_readBehindValue_133 rfl rfl (by decide) (by decide) (Nat.le_of_ble_eq_true rfl) (by decide) (by decide) rfl (c_refuse hρ) ?_
          refine pq4 ?_
          exact V_zreturn rfl (by first | exact Or.inl rfl | exact Or.inr rfl | (unfold bz; split <;> simp)) ⟨rfl, rfl, LVP.no hF.rff (rfF_fl hc.2.1.1), rfl⟩ dX2_readBehindValue_136
      · have ect : ctdF B = (true, u2 B 104 61 (B 104 61 + 1)) := by unfold ctdF; rw [if_neg c64]
        have hj := H.ct (by rw [ect])
        rw [ect] at hj
        have hj3 := (hj.pushB hk).rng (by omega)
        rw [decide_eq_true (by omega), if_pos (by omega)] at hck
        have ew : wtsF k (u2 B 104 61 (B 104 61 + 1)) = u2 (u2 (u2 B 104 61 (B 104 61 + 1)) 133 w k) 104 58 ((w : Int) + 1) := by unfold wtsF; rw [u2_o (show ¬ ((104 : Nat) = 104 ∧ 58 = 61) by omega), hw, Int.toNat_natCast]
        have hw72 : w < 72 := by
          simp only at hj3
          rw [ew, u2_s] at hj3
          omega
        rw [eR, ect, thn_tt, ew]
        have h2 : ∀ nv : Int, u2 (u2 (u2 f (b + 17) 8 (f (b + 17) 8 + 1)) 2 4 1) 2 5 nv 2 2 = (w : Int) := fun nv => by rw [u2_o (by omega), u2_o (by omega), u2_o (by omega)]; exact e2
        have fin : ∀ nv : Int, nv = (if rnk k < 3 then 1 else 0) → LVP b (true, tkF (u2 (u2 (u2 (u2 (u2 B 104 61 (B 104 61 + 1)) 133 w k) 104 58 ((w : Int) + 1)) 104 62 1) 104 63 (if rnk k < 3 then 1 else 0))) f0 (u2 (u2 (u2 (u2 (u2 f (b + 17) 8 (f (b + 17) 8 + 1)) 2 4 1) 2 5 nv) 3 w (c : Int)) 2 2 ((w : Int) + 1)) := by
          intro nv hnv
          rw [← hnv]
          have hpr := hc.pre (φ' := u2 (u2 (u2 (u2 (u2 B 104 61 (B 104 61 + 1)) 133 w k) 104 58 ((w : Int) + 1)) 104 62 1) 104 63 nv) hK.1 (funext fun j => by rw [u2_o (by omega), u2_o (by omega), u2_o (by omega), u2_o (by omega), u2_o (by omega)]) (by rw [u2_o (by omega), u2_o (by omega), u2_o (by omega), u2_o (by omega), u2_o (by omega)]) (by rw [u2_o (by omega), u2_o (by omega), u2_o (by omega), u2_o (by omega), u2_o (by omega)])
          have fo : ∀ a j, ¬ (a = 2 ∧ (j = 2 ∨ j = 4 ∨ j = 5)) → ¬ (a = 3 ∧ j = w) → ¬ (a = b + 17 ∧ j = 8) → (u2 (u2 (u2 (u2 (u2 f (b + 17) 8 (f (b + 17) 8 + 1)) 2 4 1) 2 5 nv) 3 w (c : Int)) 2 2 ((w : Int) + 1)) a j = f a j := fun a j z1 z2 z3 => by rw [u2_o (by omega), u2_o (by omega), u2_o (by omega), u2_o (by omega), u2_o (by omega)]
          have t : ∀ a j, ¬ (a = 104 ∧ (7 ≤ j ∧ j ≤ 10 ∨ j = 58 ∨ 61 ≤ j ∧ j ≤ 63)) → ¬ (a = 133 ∧ j = w) → tkF (u2 (u2 (u2 (u2 (u2 B 104 61 (B 104 61 + 1)) 133 w k) 104 58 ((w : Int) + 1)) 104 62 1) 104 63 nv) a j = B a j := fun a j z1 z2 => by rw [tkF_o (by omega), u2_o (by omega), u2_o (by omega), u2_o (by omega), u2_o (by omega), u2_o (by omega)]
          refine LVP.yes (((((hF.up (Or.inr (Or.inr (Or.inl rfl)))).up (Or.inl rfl)).up (Or.inl rfl)).up (Or.inr (Or.inl rfl))).up (Or.inl rfl)) (hpr.cg (fun j => fo _ _ (by omega) (by omega) (by omega)) (fun j => fo _ _ (by omega) (by omega) (by omega)) rfl (fun _ _ _ => rfl)) ⟨hS.1.cg (fo _ _ (by omega) (by omega) (by omega)) (fun j => fo _ _ (by omega) (by omega) (by omega)) (fun j => fo _ _ (by omega) (by omega) (by omega)) (fun j => fo _ _ (by omega) (by omega) (by omega)) (t _ _ (by omega) (by omega)) (funext fun j => t _ _ (by omega) (by omega)) (funext fun j => t _ _ (by omega) (by omega)), hS.2.1.push (w := w) (k := k) hw u2_s (by rw [u2_o (by omega), u2_s, c1]) (fun i hi => fo _ _ (by omega) (by omega) (by omega)) (by rw [tkF_o (by omega), u2_o (by omega), u2_o (by omega), u2_s]) (by rw [tkF_o (by omega), u2_o (by omega), u2_o (by omega), u2_o (by omega), u2_s]) (fun i hi => t _ _ (by omega) (by omega)), ?_, ?_, ?_, ?_⟩
          · rw [fo _ _ (by omega) (by omega) (by omega), t _ _ (by omega) (by omega)]; exact s60
          · rw [u2_o (by omega), u2_o (by omega), u2_o (by omega), u2_s, tkF_o (by omega), u2_o (by omega), u2_s]
          · rw [u2_o (by omega), u2_o (by omega), u2_s, tkF_o (by omega), u2_s]
          · rw [u2_o (by omega), u2_o (by omega), u2_o (by omega), u2_o (by omega), u2_s, tkF_o (by omega), u2_o (by omega), u2_o (by omega), u2_o (by omega), u2_o (by omega), u2_s, s61]
        have r4 : rnk k < 4 ↔ rnk k < 3 := by unfold rnk; (repeat' split) <;> omega
        refine V_al1n dX2_readBehindValue_124 ?_
        refine V_callV (as := []) ml_X2_177 im_X1_countKnot se_X1_countKnot (kb_17 hb) (by decide) (kl_17 hb) dX2_readBehindValue_125 rfl rfl (by decide) (by decide) (Nat.le_of_ble_eq_true rfl) (by decide) (by decide) rfl (hck) ?_
        refine pq4 ?_
        refine V_bf (tgt := 137) dX2_readBehindValue_128 rfl (fun b128 => ?_) (fun b128 => ?_)
        · refine V_al0n dX2_readBehindValue_137 ?_
          refine V_iconst dX2_readBehindValue_138 ?_
          refine V_putZ kk2 (by decide) fl_X2_24 rfl (by first | exact Or.inl rfl | exact Or.inr rfl | (unfold bz; split <;> simp)) dX2_readBehindValue_139 ?_
          refine V_al0n dX2_readBehindValue_142 ?_
          refine V_il3n dX2_readBehindValue_143 ?_
          refine V_iconst dX2_readBehindValue_144 ?_
          refine V_icmp_ge (tgt := 152) dX2_readBehindValue_145 rfl (by unfold ri; omega) (by unfold ri; omega) (fun b145 => ?_) (fun b145 => ?_)
          · refine V_iconst dX2_readBehindValue_152 ?_
            refine V_putZ kk2 (by decide) fl_X2_28 rfl (by first | exact Or.inl rfl | exact Or.inr rfl | (unfold bz; split <;> simp)) dX2_readBehindValue_153 ?_
            refine V_al0n dX2_readBehindValue_156 ?_
            refine V_il2n dX2_readBehindValue_157 ?_
            refine V_callV (as := [_]) ml_X2_183 im_X2_letWait se_X2_letWait kk2 (by decide) (by decide) dX2_readBehindValue_158 rfl rfl (by decide) (by decide) (Nat.le_of_ble_eq_true rfl) (by decide) (by decide) rfl (c_letWait hρ hw72 (h2 _) (s := (c : Int))) ?_
            refine pq4 ?_
            exact V_zreturn rfl (by first | exact Or.inl rfl | exact Or.inr rfl | (unfold bz; split <;> simp)) ⟨rfl, rfl, fin _ (by first | (rw [if_pos (r4.mp (by omega))]) | (rw [if_neg (fun q => by have := r4.mpr q; omega)])), rfl⟩ dX2_readBehindValue_161
          · refine V_iconst dX2_readBehindValue_148 ?_
            refine V_goto (tgt := 153) dX2_readBehindValue_149 rfl ?_
            refine V_putZ kk2 (by decide) fl_X2_28 rfl (by first | exact Or.inl rfl | exact Or.inr rfl | (unfold bz; split <;> simp)) dX2_readBehindValue_153 ?_
            refine V_al0n dX2_readBehindValue_156 ?_
            refine V_il2n dX2_readBehindValue_157 ?_
            refine V_callV (as := [_]) ml_X2_183 im_X2_letWait se_X2_letWait kk2 (by decide) (by decide) dX2_readBehindValue_158 rfl rfl (by decide) (by decide) (Nat.le_of_ble_eq_true rfl) (by decide) (by decide) rfl (c_letWait hρ hw72 (h2 _) (s := (c : Int))) ?_
            refine pq4 ?_
            exact V_zreturn rfl (by first | exact Or.inl rfl | exact Or.inr rfl | (unfold bz; split <;> simp)) ⟨rfl, rfl, fin _ (by first | (rw [if_pos (r4.mp (by omega))]) | (rw [if_neg (fun q => by have := r4.mpr q; omega)])), rfl⟩ dX2_readBehindValue_161
        · cases b128
    cases w with
    | zero =>
      refine V_il3n dX2_readBehindValue_87 ?_
      refine V_iconst dX2_readBehindValue_88 ?_
      refine V_icmp_ne (tgt := 124) dX2_readBehindValue_89 rfl (by unfold ri; omega) (by unfold ri; omega) (fun b89 => ?_) (fun b89 => ?_)
      · exact h124
      · refine V_al0n dX2_readBehindValue_92 ?_
        refine V_getI kk2 (by decide) fl_X2_17 e2 dX2_readBehindValue_93 ?_
        refine V_if_le (tgt := 124) dX2_readBehindValue_96 rfl (by unfold ri; omega) (fun b96 => ?_) (fun b96 => ?_)
        · exact h124
        · exfalso; omega
    | succ w' =>
      have et : (B 104 58 - 1).toNat = w' := by omega
      rw [et] at z
      obtain ⟨d, d1, d2, d3, d4⟩ := cwt_e (H.2.2.2.2.1 w' (by omega))
      have f3 : f 3 w' = (d : Int) := (hS.2.1.2 w' (by omega)).trans d1
      have ldr := LV_r d d2
      refine V_il3n dX2_readBehindValue_87 ?_
      refine V_iconst dX2_readBehindValue_88 ?_
      refine V_icmp_ne (tgt := 124) dX2_readBehindValue_89 rfl (by unfold ri; omega) (by unfold ri; omega) (fun b89 => ?_) (fun b89 => ?_)
      · exact h124
      · refine V_al0n dX2_readBehindValue_92 ?_
        refine V_getI kk2 (by decide) fl_X2_17 e2 dX2_readBehindValue_93 ?_
        refine V_if_le (tgt := 124) dX2_readBehindValue_96 rfl (by unfold ri; omega) (fun b96 => ?_) (fun b96 => ?_)
        · exfalso; omega
        · refine V_gets (j := 4) (by decide) fs_X2_186 dX2_readBehindValue_99 ?_
          refine V_al0n dX2_readBehindValue_102 ?_
          refine V_getR kk2 (by decide) fl_X2_13 (fx_2_1 hρ) dX2_readBehindValue_103 ?_
          refine V_al0n dX2_readBehindValue_106 ?_
          refine V_getI kk2 (by decide) fl_X2_17 e2 dX2_readBehindValue_107 ?_
          refine V_iconst dX2_readBehindValue_110 ?_
          refine V_isub dX2_readBehindValue_111 ?_
          refine V_iald (k := w') kk3 (by decide) (by first | rfl | omega) (by omega) (by first | decide | assumption | omega) f3 dX2_readBehindValue_112 ?_
          refine V_stld (j := 4) (by decide) rfl (show d < 16 from d2) (st_4 d d2) dX2_readBehindValue_113 ?_
          refine V_iconst dX2_readBehindValue_114 ?_
          refine V_icmp_ne (tgt := 124) dX2_readBehindValue_115 rfl (by unfold ri; omega) (by unfold ri; omega) (fun b115 => ?_) (fun b115 => ?_)
          · exact h124
          · exfalso; exact z ⟨by omega, by omega, by omega⟩
theorem c_readBehind {f φ : IT} (hρ : Fx ρ) (hb : b = 5 ∨ b = 30) (hc : CUR f φ) (hK : PK φ) {lo : Nat} (H : SJ lo 1 0 φ) (hS : LSR b f φ) :
    C_X2_readBehindValue [.ref 2, .ref (b + 17)] ρ f g (fun r ρ' f' g' => r = some (.int (iz (bz (sgnF φ).1))) ∧ ρ' = ρ ∧ LVP b (sgnF φ) f f' ∧ g' = g) := by
  obtain ⟨rg1, rg2, rg3⟩ := hS.rng H (by omega)
  obtain ⟨q1, q2, -, -⟩ := hc.rr hK
  obtain ⟨hcl, h16⟩ := sgK_cls hc hK
  have s60 := hS.2.2.1
  have cur : ∀ (f1 : IT) (le : Int), 1 ≤ le → SFr b f f1 → (∀ k, f1 4 k = f 4 k) → f1 2 6 = f 2 6 → f1 2 7 = f 2 7 → CUR f1 (bndF le φ) := fun f1 le hle h1 h2 h3 h4 => by
    have bk := (bndF_ok hle H).2.1
    exact hc.cg h2 (fun k => h1 1 k (by omega) (by omega) (by omega) (by omega) (by omega) (by omega) (by omega)) (funext fun j => bk _ _ (by omega) (by omega) (by omega)) (fun k z1 z2 => bk _ _ (by omega) (by omega) (by omega)) ⟨h3, h4⟩ ⟨bk _ _ (by omega) (by omega) (by omega), bk _ _ (by omega) (by omega) (by omega)⟩
  refine Ct.ofV (by decide) rfl (Nat.le_of_ble_eq_true rfl) ?_
  by_cases hA : sgnB 41 φ = true ∧ 0 < φ 104 60
  · have h43 := h16.mpr hA.1
    have eR : sgnF φ = (true, tkF (u2 (u2 (bndF 1 φ) 104 58 (bndF 1 φ 104 58 - 1)) 104 60 (bndF 1 φ 104 60 - 1))) := by unfold sgnF; rw [if_pos hA]
    have hset := c_settle (g := g) hρ hb (le := 1) (by omega) H hS
    obtain ⟨hj, bk, -, -⟩ := bndF_ok (le := 1) (by omega) H
    rw [eR]
    have go : ∀ f1 : IT, SFr b f f1 → (∀ k, f1 4 k = f 4 k) → LSR b f1 (bndF 1 φ) → CUR f1 (bndF 1 φ) → LVP b (true, tkF (u2 (u2 (bndF 1 φ) 104 58 (bndF 1 φ 104 58 - 1)) 104 60 (bndF 1 φ 104 60 - 1))) f (u2 (u2 f1 2 2 (f1 2 2 - 1)) 2 3 (f1 2 3 - 1)) := by
      intro f1 z1 z2 z3 z4
      have hKB := bk.pk hK
      generalize bndF 1 φ = B at *
      have hpr := z4.pre (φ' := u2 (u2 B 104 58 (B 104 58 - 1)) 104 60 (B 104 60 - 1)) hKB.1 ((u2_row (by omega)).trans (u2_row (by omega))) (by rw [u2_o (by omega), u2_o (by omega)]) (by rw [u2_o (by omega), u2_o (by omega)])
      have fo : ∀ a j, ¬ (a = 2 ∧ (j = 2 ∨ j = 3)) → (u2 (u2 f1 2 2 (f1 2 2 - 1)) 2 3 (f1 2 3 - 1)) a j = f1 a j := fun a j y => by rw [u2_o (by omega), u2_o (by omega)]
      have t : ∀ a j, ¬ (a = 104 ∧ (7 ≤ j ∧ j ≤ 10 ∨ j = 58 ∨ j = 60)) → tkF (u2 (u2 B 104 58 (B 104 58 - 1)) 104 60 (B 104 60 - 1)) a j = B a j := fun a j y => by rw [tkF_o (by omega), u2_o (by omega), u2_o (by omega)]
      have t58 : tkF (u2 (u2 B 104 58 (B 104 58 - 1)) 104 60 (B 104 60 - 1)) 104 58 = B 104 58 - 1 := by rw [tkF_o (by omega), u2_o (by omega), u2_s]
      refine LVP.yes ((z1.up (Or.inl rfl)).up (Or.inl rfl)) (hpr.cg (fun j => fo _ _ (by omega)) (fun j => fo _ _ (by omega)) rfl (fun _ _ _ => rfl)) ⟨z3.1.cg (fo _ _ (by omega)) (fun j => fo _ _ (by omega)) (fun j => fo _ _ (by omega)) (fun j => fo _ _ (by omega)) (t _ _ (by omega)) (funext fun j => t _ _ (by omega)) (funext fun j => t _ _ (by omega)), ⟨?_, fun i hi => ?_⟩, ?_, ?_, ?_, ?_⟩
      · rw [u2_o (by omega), u2_s, t58, z3.2.1.1]
      · rw [t58] at hi; rw [fo _ _ (by omega), t _ _ (by omega)]; exact z3.2.1.2 i (by omega)
      · rw [u2_s, tkF_o (by omega), u2_s, z3.2.2.1]
      · rw [fo _ _ (by omega), t _ _ (by omega)]; exact z3.2.2.2.1
      · rw [fo _ _ (by omega), t _ _ (by omega)]; exact z3.2.2.2.2.1
      · rw [fo _ _ (by omega), t _ _ (by omega)]; exact z3.2.2.2.2.2
    refine V_al0n dX2_readBehindValue_0 ?_
    refine V_getR kk2 (by decide) fl_X2_42 (fx_2_0 hρ) dX2_readBehindValue_1 ?_
    refine V_getI kk4 (by decide) fl_X2_58 h43 dX2_readBehindValue_4 ?_
    refine V_is2n dX2_readBehindValue_7 (by decide) rfl ?_
    refine V_il2n dX2_readBehindValue_8 ?_
    refine V_bipush dX2_readBehindValue_9 rfl ?_
    refine V_icmp_ne (tgt := 49) dX2_readBehindValue_11 rfl (by unfold ri; omega) (by unfold ri; omega) (fun b11 => ?_) (fun b11 => ?_)
    · exfalso; omega
    · refine V_al0n dX2_readBehindValue_14 ?_
      refine V_getI kk2 (by decide) fl_X2_21 rfl dX2_readBehindValue_15 ?_
      refine V_if_le (tgt := 49) dX2_readBehindValue_18 rfl (by unfold ri; omega) (fun b18 => ?_) (fun b18 => ?_)
      · exfalso; omega
      · refine V_al0n dX2_readBehindValue_21 ?_
        refine V_al1n dX2_readBehindValue_22 ?_
        refine V_iconst dX2_readBehindValue_23 ?_
        refine V_callV (as := [_, _]) ml_X2_167 im_X2_settle se_X2_settle kk2 (by decide) (by decide) dX2_readBehindValue_24 rfl rfl (by decide) (by decide) (Nat.le_of_ble_eq_true rfl) (by decide) (by decide) rfl (hset) ?_
        rintro r24 ρ24 f24 g24 ⟨rfl, s24_0, y1, y2, y3, y4, y5, s24_1⟩
        obtain rfl := s24_0.symm
        obtain rfl := s24_1.symm
        refine V_al0n dX2_readBehindValue_27 ?_
        refine V_dup dX2_readBehindValue_28 rfl ?_
        refine V_getI kk2 (by decide) fl_X2_17 rfl dX2_readBehindValue_29 ?_
        refine V_iconst dX2_readBehindValue_32 ?_
        refine V_isub dX2_readBehindValue_33 ?_
        refine V_putI kk2 (by decide) fl_X2_17 rfl dX2_readBehindValue_34 ?_
        refine V_al0n dX2_readBehindValue_37 ?_
        refine V_dup dX2_readBehindValue_38 rfl ?_
        refine V_getI kk2 (by decide) fl_X2_21 (u2_n (by decide) rfl) dX2_readBehindValue_39 ?_
        refine V_iconst dX2_readBehindValue_42 ?_
        refine V_isub dX2_readBehindValue_43 ?_
        refine V_putI kk2 (by decide) fl_X2_21 rfl dX2_readBehindValue_44 ?_
        refine V_iconst dX2_readBehindValue_47 ?_
        exact V_zreturn rfl (by first | exact Or.inl rfl | exact Or.inr rfl | (unfold bz; split <;> simp)) ⟨rfl, rfl, go f24 y1 y2 y5 (cur f24 1 (by omega) y1 y2 y3 y4), rfl⟩ dX2_readBehindValue_48
  · rcases hcl with ⟨e0, hK0⟩ | ⟨k3, k14, h43⟩
    · have eR : sgnF φ = (false, wrg 1 φ) := by unfold sgnF; rw [if_neg hA, if_pos e0]
      rw [eR]
      have ho : f 4 3 = 16 → f 2 3 ≤ 0 := fun z => by
        have := h16.mp z
        rw [s60]
        exact Int.not_lt.mp (fun y => hA ⟨this, y⟩)
      have h49 : V_X2_readBehindValue (fun r ρ' f' g' => r = some (.int (iz (bz (false, wrg 1 φ).1))) ∧ ρ' = ρ ∧ LVP b (false, wrg 1 φ) f f' ∧ g' = g) 49 [.ref 2, .ref (b + 17), .int (iz (f 4 3)), .null] [] ρ f g := by
        refine V_il2n dX2_readBehindValue_49 ?_
        refine V_iconst dX2_readBehindValue_50 ?_
        refine V_icmp_lt (tgt := 60) dX2_readBehindValue_51 rfl (by unfold ri; omega) (by unfold ri; omega) (fun b51 => ?_) (fun b51 => ?_)
        · refine V_al0n dX2_readBehindValue_60 ?_
          refine V_iconst dX2_readBehindValue_61 ?_
          refine V_callV (as := [_]) ml_X2_68 im_X2_refuse se_X2_refuse kk2 (by decide) (by decide) dX2_readBehindValue_62 rfl rfl (by decide) (by decide) (Nat.le_of_ble_eq_true rfl) (by decide) (by decide) rfl (c_refuse hρ) ?_
          refine pq4 ?_
          exact V_zreturn rfl (by first | exact Or.inl rfl | exact Or.inr rfl | (unfold bz; split <;> simp)) ⟨rfl, rfl, LVP.no SFr.rf.rff (rfF_fl hc.2.1.1), rfl⟩ dX2_readBehindValue_65
        · refine V_il2n dX2_readBehindValue_54 ?_
          refine V_bipush dX2_readBehindValue_55 rfl ?_
          refine V_icmp_le (tgt := 66) dX2_readBehindValue_57 rfl (by unfold ri; omega) (by unfold ri; omega) (fun b57 => ?_) (fun b57 => ?_)
          · exfalso; omega
          · refine V_al0n dX2_readBehindValue_60 ?_
            refine V_iconst dX2_readBehindValue_61 ?_
            refine V_callV (as := [_]) ml_X2_68 im_X2_refuse se_X2_refuse kk2 (by decide) (by decide) dX2_readBehindValue_62 rfl rfl (by decide) (by decide) (Nat.le_of_ble_eq_true rfl) (by decide) (by decide) rfl (c_refuse hρ) ?_
            refine pq4 ?_
            exact V_zreturn rfl (by first | exact Or.inl rfl | exact Or.inr rfl | (unfold bz; split <;> simp)) ⟨rfl, rfl, LVP.no SFr.rf.rff (rfF_fl hc.2.1.1), rfl⟩ dX2_readBehindValue_65
      refine V_al0n dX2_readBehindValue_0 ?_
      refine V_getR kk2 (by decide) fl_X2_42 (fx_2_0 hρ) dX2_readBehindValue_1 ?_
      refine V_getI kk4 (by decide) fl_X2_58 rfl dX2_readBehindValue_4 ?_
      refine V_is2n dX2_readBehindValue_7 (by decide) rfl ?_
      refine V_il2n dX2_readBehindValue_8 ?_
      refine V_bipush dX2_readBehindValue_9 rfl ?_
      refine V_icmp_ne (tgt := 49) dX2_readBehindValue_11 rfl (by unfold ri; omega) (by unfold ri; omega) (fun b11 => ?_) (fun b11 => ?_)
      · exact h49
      · refine V_al0n dX2_readBehindValue_14 ?_
        refine V_getI kk2 (by decide) fl_X2_21 rfl dX2_readBehindValue_15 ?_
        refine V_if_le (tgt := 49) dX2_readBehindValue_18 rfl (by unfold ri; omega) (fun b18 => ?_) (fun b18 => ?_)
        · exact h49
        · exfalso; have := ho (by omega); omega
    · have hk : 3 ≤ sgK φ ∧ sgK φ ≤ 14 := ⟨k3, k14⟩
      have eR : sgnF φ = sgnK (sgK φ) (bndF (if rnk (sgK φ) = 4 then 5 else rnk (sgK φ)) φ) := by unfold sgnF; rw [if_neg hA, if_neg (by omega)]
      generalize sgK φ = k at *
      obtain ⟨c, c1, c2, c3, c4⟩ := cwt_e (Or.inr ⟨by omega, k14⟩ : k = 0 ∨ 2 ≤ k ∧ k ≤ 14)
      have lr := LV_r c c2
      have cs : swp k = (c : Int) := by rw [← c1]; unfold cwt; rw [if_neg (by omega)]
      have cc : 3 ≤ c ∧ c ≤ 14 := by unfold swp at cs; (repeat' split at cs) <;> omega
      have h43c : f 4 3 = (c : Int) := h43.trans cs
      have r1 := rnk_3 k3
      by_cases e4 : rnk k = 4
      · rw [if_pos e4] at eR
        have hset := c_settle (g := g) hρ hb (le := 5) (by omega) H hS
        obtain ⟨hj, bk, -, -⟩ := bndF_ok (le := 5) (by omega) H
        rw [eR]
        refine V_al0n dX2_readBehindValue_0 ?_
        refine V_getR kk2 (by decide) fl_X2_42 (fx_2_0 hρ) dX2_readBehindValue_1 ?_
        refine V_getI kk4 (by decide) fl_X2_58 h43c dX2_readBehindValue_4 ?_
        refine V_is2n dX2_readBehindValue_7 (by decide) rfl ?_
        refine V_il2n dX2_readBehindValue_8 ?_
        refine V_bipush dX2_readBehindValue_9 rfl ?_
        refine V_icmp_ne (tgt := 49) dX2_readBehindValue_11 rfl (by unfold ri; omega) (by unfold ri; omega) (fun b11 => ?_) (fun b11 => ?_)
        · refine V_il2n dX2_readBehindValue_49 ?_
          refine V_iconst dX2_readBehindValue_50 ?_
          refine V_icmp_lt (tgt := 60) dX2_readBehindValue_51 rfl (by unfold ri; omega) (by unfold ri; omega) (fun b51 => ?_) (fun b51 => ?_)
          · exfalso; omega
          · refine V_il2n dX2_readBehindValue_54 ?_
            refine V_bipush dX2_readBehindValue_55 rfl ?_
            refine V_icmp_le (tgt := 66) dX2_readBehindValue_57 rfl (by unfold ri; omega) (by unfold ri; omega) (fun b57 => ?_) (fun b57 => ?_)
            · refine V_gets (j := 4) (by decide) fs_X2_186 dX2_readBehindValue_66 ?_
              refine V_il2n dX2_readBehindValue_69 ?_
              refine V_stld (j := 4) (by decide) rfl (show c < 16 from c2) (st_4 c c2) dX2_readBehindValue_70 ?_
              refine V_is3n dX2_readBehindValue_71 (by decide) rfl ?_
              refine V_al0n dX2_readBehindValue_72 ?_
              refine V_al1n dX2_readBehindValue_73 ?_
              refine V_il3n dX2_readBehindValue_74 ?_
              refine V_iconst dX2_readBehindValue_75 ?_
              refine V_icmp_ne (tgt := 83) dX2_readBehindValue_76 rfl (by unfold ri; omega) (by unfold ri; omega) (fun b76 => ?_) (fun b76 => ?_)
              · exfalso; omega
              · refine V_iconst dX2_readBehindValue_79 ?_
                refine V_goto (tgt := 84) dX2_readBehindValue_80 rfl ?_
                refine V_callV (as := [_, _]) ml_X2_167 im_X2_settle se_X2_settle kk2 (by decide) (by decide) dX2_readBehindValue_84 rfl rfl (by decide) (by decide) (Nat.le_of_ble_eq_true rfl) (by decide) (by decide) rfl (hset) ?_
                rintro r84 ρ84 f84 g84 ⟨rfl, s84_0, y1, y2, y3, y4, y5, s84_1⟩
                obtain rfl := s84_0.symm
                obtain rfl := s84_1.symm
                exact w_rb87 hρ hb y1 (cur f84 5 (by omega) y1 y2 y3 y4) (bk.pk hK) hj y5 hk c1 c2 c3
            · exfalso; omega
        · exfalso; omega
      · rw [if_neg e4] at eR
        have hset := c_settle (g := g) hρ hb (le := LVt c) (by omega) H hS
        obtain ⟨hj, bk, -, -⟩ := bndF_ok (le := LVt c) (by omega) H
        rw [← c3] at eR
        rw [eR]
        refine V_al0n dX2_readBehindValue_0 ?_
        refine V_getR kk2 (by decide) fl_X2_42 (fx_2_0 hρ) dX2_readBehindValue_1 ?_
        refine V_getI kk4 (by decide) fl_X2_58 h43c dX2_readBehindValue_4 ?_
        refine V_is2n dX2_readBehindValue_7 (by decide) rfl ?_
        refine V_il2n dX2_readBehindValue_8 ?_
        refine V_bipush dX2_readBehindValue_9 rfl ?_
        refine V_icmp_ne (tgt := 49) dX2_readBehindValue_11 rfl (by unfold ri; omega) (by unfold ri; omega) (fun b11 => ?_) (fun b11 => ?_)
        · refine V_il2n dX2_readBehindValue_49 ?_
          refine V_iconst dX2_readBehindValue_50 ?_
          refine V_icmp_lt (tgt := 60) dX2_readBehindValue_51 rfl (by unfold ri; omega) (by unfold ri; omega) (fun b51 => ?_) (fun b51 => ?_)
          · exfalso; omega
          · refine V_il2n dX2_readBehindValue_54 ?_
            refine V_bipush dX2_readBehindValue_55 rfl ?_
            refine V_icmp_le (tgt := 66) dX2_readBehindValue_57 rfl (by unfold ri; omega) (by unfold ri; omega) (fun b57 => ?_) (fun b57 => ?_)
            · refine V_gets (j := 4) (by decide) fs_X2_186 dX2_readBehindValue_66 ?_
              refine V_il2n dX2_readBehindValue_69 ?_
              refine V_stld (j := 4) (by decide) rfl (show c < 16 from c2) (st_4 c c2) dX2_readBehindValue_70 ?_
              refine V_is3n dX2_readBehindValue_71 (by decide) rfl ?_
              refine V_al0n dX2_readBehindValue_72 ?_
              refine V_al1n dX2_readBehindValue_73 ?_
              refine V_il3n dX2_readBehindValue_74 ?_
              refine V_iconst dX2_readBehindValue_75 ?_
              refine V_icmp_ne (tgt := 83) dX2_readBehindValue_76 rfl (by unfold ri; omega) (by unfold ri; omega) (fun b76 => ?_) (fun b76 => ?_)
              · refine V_il3n dX2_readBehindValue_83 ?_
                refine V_callV (as := [_, _]) ml_X2_167 im_X2_settle se_X2_settle kk2 (by decide) (by decide) dX2_readBehindValue_84 rfl rfl (by decide) (by decide) (Nat.le_of_ble_eq_true rfl) (by decide) (by decide) rfl (hset) ?_
                rintro r84 ρ84 f84 g84 ⟨rfl, s84_0, y1, y2, y3, y4, y5, s84_1⟩
                obtain rfl := s84_0.symm
                obtain rfl := s84_1.symm
                exact w_rb87 hρ hb y1 (cur f84 (LVt c) (by omega) y1 y2 y3 y4) (bk.pk hK) hj y5 hk c1 c2 c3
              · exfalso; omega
            · exfalso; omega
        · exfalso; omega
end CSIGN

