def plnL (n : Nat) : Nat → IT → Bool × IT
  | 0, f => (false, f)
  | k + 1, f => if f 104 8 = 3 ∧ f 122 (5 + n) = 6 then (false, wrg 2 f) else thn (numF 1 9 f) fun f1 =>
    if f1 104 8 = 3 then plnL n k (u2 (u2 f1 123 (6 * (5 + n) + (f1 122 (5 + n)).toNat) (f1 104 11)) 122 (5 + n) (f1 122 (5 + n) + 1))
    else (true, u2 (u2 (u2 f1 123 (6 * (5 + n) + (f1 122 (5 + n)).toNat) (f1 104 11)) 122 (5 + n) (f1 122 (5 + n) + 1)) 104 23 ((n : Int) + 1))
def planN (n : Nat) (f : IT) : Bool × IT := thn (nnF 120 5 n (tkF f)) fun f1 => if f1 104 8 ≠ 2 then (false, wrg 1 f1) else if fnd (f1 116) 3 (f1 104 22).toNat (f1 104 9) < 0 then (false, wrg 4 f1) else plnL n 7 (u2 (tkF (u2 f1 121 (5 + n) (fnd (f1 116) 3 (f1 104 22).toNat (f1 104 9)))) 122 (5 + n) 0)
def planF (f : IT) : Bool × IT := if f 104 23 = 5 then (false, wrg 2 f) else planN (f 104 23).toNat f
theorem w_pl104 {Q : QT} {ρ : RT} {g : JT} (hρ : Fx ρ) {n : Nat} (hn : n < 5) {h : Int} {R : Bool × IT} (hQ : Q (some (.int (iz (bz R.1)))) ρ R.2 g) (m : Nat) (hm : m ≤ 6) (f : IT) (hK : PK f) (h23 : f 104 23 = (n : Int)) (h122 : f 122 (5 + n) = (m : Int)) (hk : 0 < m → f 104 8 = 3) (hR : R = plnL n (7 - m) f) :
    V_X12_planLine Q 104 [.ref 104, .int (iz ((5 : Int) + n)), .int (iz h), .int (iz 1)] [] ρ f g := by
  rw [show 7 - m = (6 - m) + 1 by omega, plnL] at hR
  have h8 := hK.r8
  by_cases c : f 104 8 = 3 ∧ f 122 (5 + n) = 6
  · rw [if_pos c] at hR
    subst hR
    refine V_il3n dX12_planLine_104 ?_
    refine V_if_eq (tgt := 192) dX12_planLine_105 rfl (by first | assumption | (unfold ri at *; omega)) (fun b105 => ?_) (fun b105 => ?_)
    · exfalso; omega
    · refine V_al0n dX12_planLine_108 ?_
      refine V_getI kk104 (by decide) fl_X12_172 c.1 dX12_planLine_109 ?_
      refine V_iconst dX12_planLine_112 ?_
      refine V_icmp_ne (tgt := 133) dX12_planLine_113 rfl (by first | assumption | (unfold ri at *; omega)) (by first | assumption | (unfold ri at *; omega)) (fun b113 => ?_) (fun b113 => ?_)
      · exfalso; omega
      · refine V_al0n dX12_planLine_116 ?_
        refine V_getR kk104 (by decide) fl_X12_66 (fx_104_45 hρ) dX12_planLine_117 ?_
        refine V_il1n dX12_planLine_120 ?_
        refine V_iald (k := 5 + n) kk122 (by decide) (by first | rfl | omega) (by omega) (by first | decide | assumption | omega) c.2 dX12_planLine_121 ?_
        refine V_bipush dX12_planLine_122 rfl ?_
        refine V_icmp_ne (tgt := 133) dX12_planLine_124 rfl (by first | assumption | (unfold ri at *; omega)) (by first | assumption | (unfold ri at *; omega)) (fun b124 => ?_) (fun b124 => ?_)
        · exfalso; omega
        · refine V_al0n dX12_planLine_127 ?_
          refine V_iconst dX12_planLine_128 ?_
          refine V_callV (as := [_]) ml_X12_196 im_X12_wrong se_X12_wrong kk104 (by decide) (by decide) dX12_planLine_129 rfl rfl (by decide) (by decide) (Nat.le_of_ble_eq_true rfl) (by decide) (by decide) rfl (c_wrong) ?_
          refine pq4 ?_
          exact V_zreturn rfl (by first | exact Or.inl rfl | exact Or.inr rfl | (unfold bz; split <;> simp)) hQ dX12_planLine_132
  · rw [if_neg c] at hR
    have h133 : V_X12_planLine Q 133 [.ref 104, .int (iz ((5 : Int) + n)), .int (iz h), .int (iz 1)] [] ρ f g := by
      refine V_al0n dX12_planLine_133 ?_
      refine V_iconst dX12_planLine_134 ?_
      refine V_bipush dX12_planLine_135 rfl ?_
      refine V_callV (as := [_, _]) ml_X12_212 im_X12_number se_X12_number kk104 (by decide) (by decide) dX12_planLine_137 rfl rfl (by decide) (by decide) (Nat.le_of_ble_eq_true rfl) (by decide) (by decide) rfl (c_number hρ hK (lo := 1) (hi := 9) (by unfold ri; omega) (by unfold ri; omega)) ?_
      rintro r137 ρ137 f137 g137 ⟨rfl, s137_0, e137, s137_1⟩
      obtain rfl := s137_0.symm
      obtain rfl := s137_1.symm
      refine V_bf (tgt := 145) dX12_planLine_140 rfl (fun b140 => ?_) (fun b140 => ?_)
      · rw [thn_t b140, ← e137] at hR
        have K1 : PK f137 := by rw [e137]; exact hK.num
        have o1 : ∀ b j, ¬ (b = 104 ∧ (j = 4 ∨ j = 5 ∨ 7 ≤ j ∧ j ≤ 11)) → f137 b j = f b j := fun b j hh => by rw [e137]; exact numF_o hh
        have m1 : f137 122 (5 + n) = (m : Int) := (o1 122 _ (by omega)).trans h122
        have hm5 : m ≤ 5 := by
          by_cases q : m = 6
          · exact absurd ⟨hk (by omega), by omega⟩ c
          · omega
        rw [m1, Int.toNat_natCast] at hR
        have K2 : PK (u2 (u2 f137 123 (6 * (5 + n) + m) (f137 104 11)) 122 (5 + n) ((m : Int) + 1)) := (K1.up (by omega) (by omega) (by omega)).up (by omega) (by omega) (by omega)
        have h81 := K1.r8
        refine V_al0n dX12_planLine_145 ?_
        refine V_getR kk104 (by decide) fl_X12_69 (fx_104_46 hρ) dX12_planLine_146 ?_
        refine V_bipush dX12_planLine_149 rfl ?_
        refine V_il1n dX12_planLine_151 ?_
        refine V_imul dX12_planLine_152 ?_
        refine V_al0n dX12_planLine_153 ?_
        refine V_getR kk104 (by decide) fl_X12_66 (fx_104_45 hρ) dX12_planLine_154 ?_
        refine V_il1n dX12_planLine_157 ?_
        refine V_iald (k := 5 + n) kk122 (by decide) (by first | rfl | omega) (by omega) (by first | decide | assumption | omega) m1 dX12_planLine_158 ?_
        refine V_iadd dX12_planLine_159 ?_
        refine V_al0n dX12_planLine_160 ?_
        refine V_getI kk104 (by decide) fl_X12_203 rfl dX12_planLine_161 ?_
        refine V_iast (k := 6 * (5 + n) + m) kk123 (by decide) (by first | rfl | omega) (by omega) (by first | decide | assumption | omega) dX12_planLine_164 ?_
        refine V_al0n dX12_planLine_165 ?_
        refine V_getR kk104 (by decide) fl_X12_66 (fx_104_45 hρ) dX12_planLine_166 ?_
        refine V_il1n dX12_planLine_169 ?_
        refine V_dup2 dX12_planLine_170 rfl rfl ?_
        refine V_iald (k := 5 + n) kk122 (by decide) (by first | rfl | omega) (by omega) (by first | decide | assumption | omega) (u2_n (by omega) m1) dX12_planLine_171 ?_
        refine V_iconst dX12_planLine_172 ?_
        refine V_iadd dX12_planLine_173 ?_
        refine V_iast (k := 5 + n) kk122 (by decide) (by first | rfl | omega) (by omega) (by first | decide | assumption | omega) dX12_planLine_174 ?_
        refine V_al0n dX12_planLine_175 ?_
        refine V_getI kk104 (by decide) fl_X12_172 (u2_n (by omega) (u2_n (by omega) rfl)) dX12_planLine_176 ?_
        refine V_iconst dX12_planLine_179 ?_
        refine V_icmp_ne (tgt := 187) dX12_planLine_180 rfl (by first | exact h81.1 | (unfold ri; omega)) (by first | exact h81.1 | (unfold ri; omega)) (fun b180 => ?_) (fun b180 => ?_)
        · rw [if_neg b180] at hR
          refine V_iconst dX12_planLine_187 ?_
          refine V_is3n dX12_planLine_188 (by decide) rfl ?_
          refine V_goto (tgt := 104) dX12_planLine_189 rfl ?_
          refine V_il3n dX12_planLine_104 ?_
          refine V_if_eq (tgt := 192) dX12_planLine_105 rfl (by unfold ri; omega) (fun b105 => ?_) (fun b105 => by exfalso; omega)
          refine V_al0n dX12_planLine_192 ?_
          refine V_dup dX12_planLine_193 rfl ?_
          refine V_getI kk104 (by decide) fl_X12_225 (show (u2 (u2 f137 123 (6 * (5 + n) + m) (f137 104 11)) 122 (5 + n) ((m : Int) + 1)) 104 23 = (n : Int) by rw [u2_o (by omega), u2_o (by omega), o1 104 23 (by omega)]; exact h23) dX12_planLine_194 ?_
          refine V_iconst dX12_planLine_197 ?_
          refine V_iadd dX12_planLine_198 ?_
          refine V_putI kk104 (by decide) fl_X12_225 rfl dX12_planLine_199 ?_
          refine V_iconst dX12_planLine_202 ?_
          subst hR
          exact V_zreturn rfl (Or.inr rfl) hQ dX12_planLine_203
        · rw [if_pos b180] at hR
          refine V_iconst dX12_planLine_183 ?_
          refine V_goto (tgt := 188) dX12_planLine_184 rfl ?_
          refine V_is3n dX12_planLine_188 (by decide) rfl ?_
          refine V_goto (tgt := 104) dX12_planLine_189 rfl ?_
          exact w_pl104 hρ hn hQ (m + 1) (by omega) _ K2 (by rw [u2_o (by omega), u2_o (by omega), o1 104 23 (by omega)]; exact h23) u2_s (fun _ => by rw [u2_o (by omega), u2_o (by omega)]; exact b180) (by rw [hR, show 7 - (m + 1) = 6 - m by omega])
      · rw [thn_f b140, ← e137] at hR
        subst hR
        refine V_iconst dX12_planLine_143 ?_
        exact V_zreturn rfl (by first | exact Or.inl rfl | exact Or.inr rfl | (unfold bz; split <;> simp)) hQ dX12_planLine_144
    refine V_il3n dX12_planLine_104 ?_
    refine V_if_eq (tgt := 192) dX12_planLine_105 rfl (by first | assumption | (unfold ri at *; omega)) (fun b105 => ?_) (fun b105 => ?_)
    · exfalso; omega
    · refine V_al0n dX12_planLine_108 ?_
      refine V_getI kk104 (by decide) fl_X12_172 rfl dX12_planLine_109 ?_
      refine V_iconst dX12_planLine_112 ?_
      refine V_icmp_ne (tgt := 133) dX12_planLine_113 rfl (by first | exact h8.1 | (unfold ri; omega)) (by first | exact h8.1 | (unfold ri; omega)) (fun b113 => ?_) (fun b113 => ?_)
      · exact h133
      · refine V_al0n dX12_planLine_116 ?_
        refine V_getR kk104 (by decide) fl_X12_66 (fx_104_45 hρ) dX12_planLine_117 ?_
        refine V_il1n dX12_planLine_120 ?_
        refine V_iald (k := 5 + n) kk122 (by decide) (by first | rfl | omega) (by omega) (by first | decide | assumption | omega) h122 dX12_planLine_121 ?_
        refine V_bipush dX12_planLine_122 rfl ?_
        refine V_icmp_ne (tgt := 133) dX12_planLine_124 rfl (by first | assumption | (unfold ri at *; omega)) (by first | assumption | (unfold ri at *; omega)) (fun b124 => ?_) (fun b124 => ?_)
        · exact h133
        · exfalso; exact c ⟨b113, by omega⟩
termination_by 7 - m
theorem c_planLine {ρ : RT} {f : IT} {g : JT} (hρ : Fx ρ) (hK : PK f) (hR : RwK f) : C_X12_planLine [.ref 104] ρ f g (fun r ρ' f' g' => r = some (.int (iz (bz (planF f).1))) ∧ ρ' = ρ ∧ f' = (planF f).2 ∧ g' = g) := by
  obtain ⟨q1, q2, q20, q21, q22, q23, q24, -⟩ := hR
  obtain ⟨n, hn⟩ : ∃ n : Nat, f 104 23 = n := ⟨(f 104 23).toNat, by omega⟩
  obtain ⟨nh, hnh⟩ : ∃ n : Nat, f 104 22 = n := ⟨(f 104 22).toNat, by omega⟩
  refine Ct.ofV (by decide) rfl (Nat.le_of_ble_eq_true rfl) ?_
  by_cases e : n = 5
  · have ea : planF f = (false, wrg 2 f) := by unfold planF; rw [if_pos (by omega)]
    rw [ea]
    refine V_al0n dX12_planLine_0 ?_
    refine V_getI kk104 (by decide) fl_X12_225 hn dX12_planLine_1 ?_
    refine V_iconst dX12_planLine_4 ?_
    refine V_icmp_ne (tgt := 14) dX12_planLine_5 rfl (by first | assumption | (unfold ri at *; omega)) (by first | assumption | (unfold ri at *; omega)) (fun b5 => ?_) (fun b5 => ?_)
    · exfalso; omega
    · refine V_al0n dX12_planLine_8 ?_
      refine V_iconst dX12_planLine_9 ?_
      refine V_callV (as := [_]) ml_X12_196 im_X12_wrong se_X12_wrong kk104 (by decide) (by decide) dX12_planLine_10 rfl rfl (by decide) (by decide) (Nat.le_of_ble_eq_true rfl) (by decide) (by decide) rfl (c_wrong) ?_
      refine pq4 ?_
      exact V_zreturn rfl (by first | exact Or.inl rfl | exact Or.inr rfl | (unfold bz; split <;> simp)) ⟨rfl, rfl, rfl, rfl⟩ dX12_planLine_13
  · have ea : planF f = planN n f := by unfold planF; rw [if_neg (by omega), hn]; rfl
    unfold planN at ea
    refine V_al0n dX12_planLine_0 ?_
    refine V_getI kk104 (by decide) fl_X12_225 hn dX12_planLine_1 ?_
    refine V_iconst dX12_planLine_4 ?_
    refine V_icmp_ne (tgt := 14) dX12_planLine_5 rfl (by first | assumption | (unfold ri at *; omega)) (by first | assumption | (unfold ri at *; omega)) (fun b5 => ?_) (fun b5 => ?_)
    · refine V_al0n dX12_planLine_14 ?_
      refine V_callV (as := []) ml_X12_206 im_X12_token se_X12_token kk104 (by decide) (by decide) dX12_planLine_15 rfl rfl (by decide) (by decide) (Nat.le_of_ble_eq_true rfl) (by decide) (by decide) rfl (c_tok hρ hK) ?_
      rintro r15 ρ15 f15 g15 ⟨rfl, s15_0, e15, s15_1⟩
      obtain rfl := s15_0.symm
      obtain rfl := s15_1.symm
      rw [← e15] at ea
      have K15 : PK f15 := by rw [e15]; exact hK.tk
      have o15 : ∀ b j, ¬ (b = 104 ∧ 7 ≤ j ∧ j ≤ 10) → f15 b j = f b j := fun b j h => by rw [e15]; exact tkF_o h
      refine V_iconst dX12_planLine_18 ?_
      refine V_al0n dX12_planLine_19 ?_
      refine V_getI kk104 (by decide) fl_X12_225 ((o15 104 23 (by omega)).trans hn) dX12_planLine_20 ?_
      refine V_iadd dX12_planLine_23 ?_
      refine V_is1n dX12_planLine_24 (by decide) rfl ?_
      refine V_al0n dX12_planLine_25 ?_
      refine V_al0n dX12_planLine_26 ?_
      refine V_getR kk104 (by decide) fl_X12_60 (fx_104_43 hρ) dX12_planLine_27 ?_
      refine V_iconst dX12_planLine_30 ?_
      refine V_al0n dX12_planLine_31 ?_
      refine V_getI kk104 (by decide) fl_X12_225 ((o15 104 23 (by omega)).trans hn) dX12_planLine_32 ?_
      refine V_callV (as := [_, _, _]) ml_X12_308 im_X12_newName se_X12_newName kk104 (by decide) (by decide) dX12_planLine_35 rfl rfl (by decide) (by decide) (Nat.le_of_ble_eq_true rfl) (by decide) (by decide) rfl (c_newName hρ K15 kk120 (by omega) (by omega) (o := 5) (n := n) (by omega) (fun k => by rw [o15 120 k (by omega)]; exact (q1 k).2.2.2.1)) ?_
      rintro r35 ρ35 f35 g35 ⟨rfl, s35_0, e35, s35_1⟩
      obtain rfl := s35_0.symm
      obtain rfl := s35_1.symm
      refine V_bf (tgt := 43) dX12_planLine_38 rfl (fun b38 => ?_) (fun b38 => ?_)
      · rw [thn_t b38, ← e35] at ea
        have K35 : PK f35 := by rw [e35]; exact K15.nn (by omega)
        have h8 := K35.r8
        have o35 : ∀ b j, ¬ (b = 104 ∧ (j = 4 ∨ j = 5 ∨ 7 ≤ j ∧ j ≤ 11)) → b ≠ 120 → f35 b j = f b j := fun b j h h2 => by rw [e35, nnF_o h (by omega), o15 b j (by omega)]
        have eh : f35 104 22 = (nh : Int) := (o35 104 22 (by omega) (by omega)).trans hnh
        rw [eh, Int.toNat_natCast] at ea
        have hfr := fnd_rng (r := f35 116) (o := 3) (n := nh) (x := f35 104 9)
        refine V_al0n dX12_planLine_43 ?_
        refine V_getI kk104 (by decide) fl_X12_172 rfl dX12_planLine_44 ?_
        refine V_iconst dX12_planLine_47 ?_
        refine V_icmp_eq (tgt := 57) dX12_planLine_48 rfl (by first | exact h8.1 | (unfold ri; omega)) (by first | exact h8.1 | (unfold ri; omega)) (fun b48 => ?_) (fun b48 => ?_)
        · refine V_al0n dX12_planLine_57 ?_
          refine V_getR kk104 (by decide) fl_X12_48 (fx_104_39 hρ) dX12_planLine_58 ?_
          refine V_iconst dX12_planLine_61 ?_
          refine V_al0n dX12_planLine_62 ?_
          refine V_getI kk104 (by decide) fl_X12_222 eh dX12_planLine_63 ?_
          refine V_al0n dX12_planLine_66 ?_
          refine V_getI kk104 (by decide) fl_X12_183 rfl dX12_planLine_67 ?_
          refine V_callS (as := [_, _, _, _]) ml_X12_304 sm_X12_find dX12_planLine_70 rfl rfl (by decide) (by decide) (Nat.le_of_ble_eq_true rfl) (by decide) (by decide) rfl (c_find kk116 (by omega) (o := 3) (n := nh) (by omega) h8.2 (fun j _ => by rw [o35 116 _ (by omega) (by omega)]; exact (q1 _).2.2.1)) ?_
          refine pq4 ?_
          refine V_is2n dX12_planLine_73 (by decide) rfl ?_
          refine V_il2n dX12_planLine_74 ?_
          refine V_if_ge (tgt := 84) dX12_planLine_75 rfl (by first | assumption | (unfold ri at *; omega)) (fun b75 => ?_) (fun b75 => ?_)
          · rw [if_neg (by omega), if_neg (by omega)] at ea
            have K90 : PK (u2 f35 121 (5 + n) (fnd (f35 116) 3 nh (f35 104 9))) := K35.up (by omega) (by omega) (by omega)
            refine V_al0n dX12_planLine_84 ?_
            refine V_getR kk104 (by decide) fl_X12_63 (fx_104_44 hρ) dX12_planLine_85 ?_
            refine V_il1n dX12_planLine_88 ?_
            refine V_il2n dX12_planLine_89 ?_
            refine V_iast (k := 5 + n) kk121 (by decide) (by first | rfl | omega) (by omega) (by first | decide | assumption | omega) dX12_planLine_90 ?_
            refine V_al0n dX12_planLine_91 ?_
            refine V_callV (as := []) ml_X12_206 im_X12_token se_X12_token kk104 (by decide) (by decide) dX12_planLine_92 rfl rfl (by decide) (by decide) (Nat.le_of_ble_eq_true rfl) (by decide) (by decide) rfl (c_tok hρ K90) ?_
            rintro r92 ρ92 f92 g92 ⟨rfl, s92_0, e92, s92_1⟩
            obtain rfl := s92_0.symm
            obtain rfl := s92_1.symm
            refine V_al0n dX12_planLine_95 ?_
            refine V_getR kk104 (by decide) fl_X12_66 (fx_104_45 hρ) dX12_planLine_96 ?_
            refine V_il1n dX12_planLine_99 ?_
            refine V_iconst dX12_planLine_100 ?_
            refine V_iast (k := 5 + n) kk122 (by decide) (by first | rfl | omega) (by omega) (by first | decide | assumption | omega) dX12_planLine_101 ?_
            refine V_iconst dX12_planLine_102 ?_
            refine V_is3n dX12_planLine_103 (by decide) rfl ?_
            rw [← e92] at ea
            have K92 : PK (u2 f92 122 (5 + n) 0) := (show PK f92 by rw [e92]; exact K90.tk).up (by omega) (by omega) (by omega)
            refine w_pl104 hρ (by omega) (R := planF f) ⟨rfl, rfl, rfl, rfl⟩ 0 (by omega) _ K92 (by rw [u2_o (by omega), e92, tkF_o (by omega), u2_o (by omega), o35 104 23 (by omega) (by omega)]; exact hn) u2_s (fun h => by omega) ea
          · refine V_al0n dX12_planLine_78 ?_
            refine V_iconst dX12_planLine_79 ?_
            refine V_callV (as := [_]) ml_X12_196 im_X12_wrong se_X12_wrong kk104 (by decide) (by decide) dX12_planLine_80 rfl rfl (by decide) (by decide) (Nat.le_of_ble_eq_true rfl) (by decide) (by decide) rfl (c_wrong) ?_
            refine pq4 ?_
            exact V_zreturn rfl (by first | exact Or.inl rfl | exact Or.inr rfl | (unfold bz; split <;> simp)) ⟨by rw [ea, if_neg (by omega), if_pos (by omega)], rfl, by rw [ea, if_neg (by omega), if_pos (by omega)]; rfl, rfl⟩ dX12_planLine_83
        · refine V_al0n dX12_planLine_51 ?_
          refine V_iconst dX12_planLine_52 ?_
          refine V_callV (as := [_]) ml_X12_196 im_X12_wrong se_X12_wrong kk104 (by decide) (by decide) dX12_planLine_53 rfl rfl (by decide) (by decide) (Nat.le_of_ble_eq_true rfl) (by decide) (by decide) rfl (c_wrong) ?_
          refine pq4 ?_
          exact V_zreturn rfl (by first | exact Or.inl rfl | exact Or.inr rfl | (unfold bz; split <;> simp)) ⟨by rw [ea, if_pos b48], rfl, by rw [ea, if_pos b48]; rfl, rfl⟩ dX12_planLine_56
      · rw [thn_f b38] at ea
        refine V_iconst dX12_planLine_41 ?_
        exact V_zreturn rfl (by first | exact Or.inl rfl | exact Or.inr rfl | (unfold bz; split <;> simp)) ⟨by rw [ea]; rfl, rfl, by rw [ea]; exact e35, rfl⟩ dX12_planLine_42
    · exfalso; omega

