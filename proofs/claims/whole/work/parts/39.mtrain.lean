/-! weeks of training -/
theorem iz_shlE {a b' : Int} {b : Nat} {v : Int} (e : b' = (b : Int)) (hb : b < 32) (hv : a * 2 ^ b = v) : iz a <<< (iz b' &&& 31) = iz v := by
  subst e
  subst hv
  exact iz_shl hb
theorem iz_shrE {a b' : Int} {b : Nat} {v : Int} (ha : ri a) (e : b' = (b : Int)) (hb : b < 32) (hv : a / 2 ^ b = v) : iz a >>> (iz b' &&& 31) = iz v := by
  subst e
  subst hv
  exact iz_shr ha hb
def tnm (wt i ld fo ti : Int) : Nat → Int
  | 0 => i
  | 2 => ld
  | 3 => wt
  | 4 => fo
  | 5 => ti
  | _ => 0
abbrev TS : Type := Int × Int × Int × Int
/-- a week: form, tired, harm, loads -/
def wkS (T : TT) (wt : Int) (i : Nat) (ld : Int) (s : TS) : TS := (clampF (s.1 + bl T (tnm wt i ld s.1 s.2.1) 3 0 (-20) 20), clampF (s.2.1 + bl T (tnm wt i ld s.1 s.2.1) 4 0 (-20) 20), s.2.2.1 + bl T (tnm wt i ld s.1 s.2.1) 5 0 0 99, s.2.2.2 + ld * 2 ^ (2 * i))
def csr (T : TT) (wt : Int) : Nat → Nat → TS → Nat → TS
  | 0, _, s, _ => s
  | r + 1, i, s, c => csr T wt r (i + 1) (wkS T wt i ((c / 2 ^ (2 * r) % 4 : Nat) : Int) s) c
def wgh (mo : Int) (s : TS) (b : Int × Int × Int) : Int × Int × Int := if mo < s.2.2.1 ∨ (0 ≤ b.2.2 ∧ (s.1 - s.2.1 < b.1 ∨ (s.1 - s.2.1 = b.1 ∧ b.2.1 ≤ s.2.2.1))) then b else (s.1 - s.2.1, s.2.2.1, s.2.2.2)
def fdT (T : TT) (wt mo : Int) (n : Nat) : Nat → Nat → Int × Int × Int → Int × Int × Int
  | 0, _, b => b
  | k + 1, c, b => fdT T wt mo n k (c + 1) (wgh mo (csr T wt n 0 (0, 0, 0, 0) c) b)
def TSR (i : Nat) (s : TS) : Prop := (0 ≤ s.1 ∧ s.1 ≤ 60) ∧ (0 ≤ s.2.1 ∧ s.2.1 ≤ 60) ∧ (0 ≤ s.2.2.1 ∧ s.2.2.1 ≤ 99 * i) ∧ (0 ≤ s.2.2.2 ∧ s.2.2.2 < 2 ^ (2 * i))
theorem clampF_rng (n : Int) : 0 ≤ clampF n ∧ clampF n ≤ 60 := by unfold clampF; (repeat' split) <;> omega
theorem p2s (i : Nat) : (2 : Int) ^ (2 * (i + 1)) = 4 * 2 ^ (2 * i) := by
  rw [show 2 * (i + 1) = 2 * i + 2 by omega, Int.pow_succ, Int.pow_succ]
  omega
theorem wkS_rng {T : TT} {wt : Int} {i : Nat} {ld : Int} (hl : 0 ≤ ld ∧ ld ≤ 3) {s : TS} (hs : TSR i s) : TSR (i + 1) (wkS T wt i ld s) := by
  obtain ⟨h1, h2, h3, h4⟩ := hs
  have hb := bl_rng (T := T) (nm := tnm wt i ld s.1 s.2.1) (w := 5) (wo := 0) (lo := 0) (hi := 99) (by omega) (by omega)
  have hp : (0 : Int) < 2 ^ (2 * i) := Int.pow_pos (by decide)
  refine ⟨clampF_rng _, clampF_rng _, ?_, ?_⟩
  · simp only [wkS]; omega
  · simp only [wkS]
    rw [p2s]
    generalize (2 : Int) ^ (2 * i) = P at *
    have h5 : 0 ≤ ld * P := Int.mul_nonneg hl.1 (by omega)
    have h6 : ld * P ≤ 3 * P := Int.mul_le_mul_of_nonneg_right hl.2 (by omega)
    omega
theorem w_tr80 {Q : QT} {ρ : RT} {f : IT} {g0 : JT} (hρ : Fx ρ) {x1 x2 x3 x4 x5 x6 x7 x8 x9 x10 : Int}
    (hX : ∀ g : JT, (∀ k, k < 8 → g 135 k = 0) → (∀ a, a ≠ 135 → g a = g0 a) → V_X12_layTrained Q 101 [.ref 104, .int (iz x1), .int (iz x2), .int (iz x3), .int (iz x4), .int (iz x5), .int (iz x6), .int (iz x7), .int (iz x8), .int (iz x9), .int (iz x10), .null, .null] [] ρ f g)
    (j : Nat) (hj : j ≤ 8) (g : JT) (hz : ∀ k, k < j → g 135 k = 0) (hg : ∀ a, a ≠ 135 → g a = g0 a) :
    V_X12_layTrained Q 80 [.ref 104, .int (iz x1), .int (iz x2), .int (iz x3), .int (iz x4), .int (iz x5), .int (iz x6), .int (iz x7), .int (iz x8), .int (iz x9), .int (iz x10), .int (iz (j : Int)), .null] [] ρ f g := by
  refine V_il11 dX12_layTrained_80 ?_
  refine V_bipush dX12_layTrained_82 rfl ?_
  refine V_icmp_ge (tgt := 101) dX12_layTrained_84 rfl (by first | assumption | (unfold ri at *; omega)) (by first | assumption | (unfold ri at *; omega)) (fun b84 => ?_) (fun b84 => ?_)
  · exact V_weak (by repeat (first | exact wk_n | refine wk_c (Or.inr rfl) ?_ | refine wk_c (Or.inl rfl) ?_)) (hX g (fun k hk => hz k (by omega)) hg)
  · refine V_al0n dX12_layTrained_87 ?_
    refine V_getR kk104 (by decide) fl_X12_105 (fx_104_64 hρ) dX12_layTrained_88 ?_
    refine V_il11 dX12_layTrained_91 ?_
    refine V_lconst (a := 0) dX12_layTrained_93 rfl ?_
    refine V_last (k := j) kk135 (by decide) (by first | rfl | omega) (by omega) (by first | decide | assumption | omega) dX12_layTrained_94 ?_
    refine V_inc11 dX12_layTrained_95 (by decide) rfl ?_
    refine V_goto (tgt := 80) dX12_layTrained_98 rfl ?_
    exact w_tr80 hρ hX (j + 1) (by omega) _ (fun k hk => by by_cases e : k = j; (rw [e]; exact u2_s); exact u2_n (by omega) (hz k (by omega))) (fun a ha => by rw [u2_row ha]; exact hg a ha)
termination_by 8 - j
theorem w_tr101 {T : TT} {Q : QT} {ρ : RT} {f : IT} {g : JT} (hρ : Fx ρ) (hT : MT T f) (hk : TOK T) {m i d : Nat} (hm : m < nMe T) (hi : i < 6) (hd : d < 4) {n mo c lo : Int} {s : TS} (hs : TSR i s) (hz : ∀ k, k < 8 → g 135 k = 0)
    (hC : ∀ (f1 : IT) (g1 : JT), KS f f1 → KG g g1 → V_X12_layTrained Q 44 [.ref 104, .int (iz (m : Int)), .int (iz n), .int (iz mo), .int (iz c), .int (iz (wkS T (T 115 m) i (d : Int) s).1), .int (iz (wkS T (T 115 m) i (d : Int) s).2.1), .int (iz (wkS T (T 115 m) i (d : Int) s).2.2.1), .int (iz lo), .int (iz ((i : Int) + 1)), .null, .null, .null] [] ρ f1 g1) :
    V_X12_layTrained Q 101 [.ref 104, .int (iz (m : Int)), .int (iz n), .int (iz mo), .int (iz c), .int (iz s.1), .int (iz s.2.1), .int (iz s.2.2.1), .int (iz lo), .int (iz (i : Int)), .int (iz (d : Int)), .null, .null] [] ρ f g := by
  have h5 := hk.me
  have hmm := hk.man hm
  obtain ⟨q1, q2, q3, q4⟩ := hs
  have nb : ∀ k, inB (tnm (T 115 m) (i : Int) (d : Int) s.1 s.2.1 k) := fun k => by
    unfold tnm inB
    split <;> omega
  have r3 := bl_rng (T := T) (nm := tnm (T 115 m) i d s.1 s.2.1) (w := 3) (wo := 0) (lo := -20) (hi := 20) (by omega) (by omega)
  have r4 := bl_rng (T := T) (nm := tnm (T 115 m) i d s.1 s.2.1) (w := 4) (wo := 0) (lo := -20) (hi := 20) (by omega) (by omega)
  refine V_al0n dX12_layTrained_101 ?_
  refine V_getR kk104 (by decide) fl_X12_105 (fx_104_64 hρ) dX12_layTrained_102 ?_
  refine V_iconst dX12_layTrained_105 ?_
  refine V_il9 dX12_layTrained_106 ?_
  refine V_i2l dX12_layTrained_108 (by first | assumption | (unfold ri at *; omega)) ?_
  refine V_last (k := 0) kk135 (by decide) (by first | rfl | omega) (by omega) (by first | decide | assumption | omega) dX12_layTrained_109 ?_
  refine V_al0n dX12_layTrained_110 ?_
  refine V_getR kk104 (by decide) fl_X12_105 (fx_104_64 hρ) dX12_layTrained_111 ?_
  refine V_iconst dX12_layTrained_114 ?_
  refine V_il10 dX12_layTrained_115 ?_
  refine V_i2l dX12_layTrained_117 (by first | assumption | (unfold ri at *; omega)) ?_
  refine V_last (k := 2) kk135 (by decide) (by first | rfl | omega) (by omega) (by first | decide | assumption | omega) dX12_layTrained_118 ?_
  refine V_al0n dX12_layTrained_119 ?_
  refine V_getR kk104 (by decide) fl_X12_105 (fx_104_64 hρ) dX12_layTrained_120 ?_
  refine V_iconst dX12_layTrained_123 ?_
  refine V_al0n dX12_layTrained_124 ?_
  refine V_getR kk104 (by decide) fl_X12_45 (fx_104_38 hρ) dX12_layTrained_125 ?_
  refine V_il1n dX12_layTrained_128 ?_
  refine V_iald (k := m) kk115 (by decide) (by first | rfl | omega) (by omega) (by first | decide | assumption | omega) (hT.at rfl (by omega : m < 5)) dX12_layTrained_129 ?_
  refine V_i2l dX12_layTrained_130 (by first | assumption | (unfold ri at *; omega)) ?_
  refine V_last (k := 3) kk135 (by decide) (by first | rfl | omega) (by omega) (by first | decide | assumption | omega) dX12_layTrained_131 ?_
  refine V_al0n dX12_layTrained_132 ?_
  refine V_getR kk104 (by decide) fl_X12_105 (fx_104_64 hρ) dX12_layTrained_133 ?_
  refine V_iconst dX12_layTrained_136 ?_
  refine V_il5 dX12_layTrained_137 ?_
  refine V_i2l dX12_layTrained_139 (by first | assumption | (unfold ri at *; omega)) ?_
  refine V_last (k := 4) kk135 (by decide) (by first | rfl | omega) (by omega) (by first | decide | assumption | omega) dX12_layTrained_140 ?_
  refine V_al0n dX12_layTrained_141 ?_
  refine V_getR kk104 (by decide) fl_X12_105 (fx_104_64 hρ) dX12_layTrained_142 ?_
  refine V_iconst dX12_layTrained_145 ?_
  refine V_il6 dX12_layTrained_146 ?_
  refine V_i2l dX12_layTrained_148 (by first | assumption | (unfold ri at *; omega)) ?_
  refine V_last (k := 5) kk135 (by decide) (by first | rfl | omega) (by omega) (by first | decide | assumption | omega) dX12_layTrained_149 ?_
  have n0 : ∀ k, k < 8 → (u2 (u2 (u2 (u2 (u2 g 135 0 (i : Int)) 135 2 (d : Int)) 135 3 (T 115 m)) 135 4 s.1) 135 5 s.2.1) 135 k = tnm (T 115 m) (i : Int) (d : Int) s.1 s.2.1 k := fun k hk => by
    rcases (show k = 0 ∨ k = 1 ∨ k = 2 ∨ k = 3 ∨ k = 4 ∨ k = 5 ∨ k = 6 ∨ k = 7 by omega) with rfl | rfl | rfl | rfl | rfl | rfl | rfl | rfl <;> simp [u2, tnm, hz]
  refine V_al0n dX12_layTrained_150 ?_
  refine V_iconst dX12_layTrained_151 ?_
  refine V_iconst dX12_layTrained_152 ?_
  refine V_bipush dX12_layTrained_153 rfl ?_
  refine V_bipush dX12_layTrained_155 rfl ?_
  refine V_callV (as := [_, _, _, _]) ml_X12_437 im_X12_boundLaw se_X12_boundLaw kk104 (by decide) (by decide) dX12_layTrained_157 rfl rfl (by decide) (by decide) (Nat.le_of_ble_eq_true rfl) (by decide) (by decide) rfl (c_boundLaw hρ hT hk (w := 3) (by omega) (fun j hj => ⟨n0 j hj, nb j⟩) (by first | assumption | (unfold ri at *; omega)) (by first | assumption | (unfold ri at *; omega)) (by first | assumption | (unfold ri at *; omega))) ?_
  rintro r157 ρ157 f157 g157 ⟨rfl, s157_0, ev1⟩
  obtain rfl := s157_0.symm
  have hT1 : MT T f157 := fun a k ht => (ev1.1 a k (fun q => by have := scM_tx ht; rw [q.1, q.2] at this; cases this)).trans (hT a k ht)
  have n1 : ∀ k, k < 8 → g157 135 k = tnm (T 115 m) (i : Int) (d : Int) s.1 s.2.1 k := fun k hk => by rw [ev1.2 135 (by omega)]; exact n0 k hk
  refine V_is11 dX12_layTrained_160 (by decide) rfl ?_
  refine V_al0n dX12_layTrained_162 ?_
  refine V_iconst dX12_layTrained_163 ?_
  refine V_iconst dX12_layTrained_164 ?_
  refine V_bipush dX12_layTrained_165 rfl ?_
  refine V_bipush dX12_layTrained_167 rfl ?_
  refine V_callV (as := [_, _, _, _]) ml_X12_437 im_X12_boundLaw se_X12_boundLaw kk104 (by decide) (by decide) dX12_layTrained_169 rfl rfl (by decide) (by decide) (Nat.le_of_ble_eq_true rfl) (by decide) (by decide) rfl (c_boundLaw hρ hT1 hk (w := 4) (by omega) (fun j hj => ⟨n1 j hj, nb j⟩) (by first | assumption | (unfold ri at *; omega)) (by first | assumption | (unfold ri at *; omega)) (by first | assumption | (unfold ri at *; omega))) ?_
  rintro r169 ρ169 f169 g169 ⟨rfl, s169_0, ev2⟩
  obtain rfl := s169_0.symm
  have hT2 : MT T f169 := fun a k ht => (ev2.1 a k (fun q => by have := scM_tx ht; rw [q.1, q.2] at this; cases this)).trans (hT1 a k ht)
  have n2 : ∀ k, k < 8 → g169 135 k = tnm (T 115 m) (i : Int) (d : Int) s.1 s.2.1 k := fun k hk => by rw [ev2.2 135 (by omega)]; exact n1 k hk
  refine V_is12 dX12_layTrained_172 (by decide) rfl ?_
  refine V_il7 dX12_layTrained_174 ?_
  refine V_al0n dX12_layTrained_176 ?_
  refine V_iconst dX12_layTrained_177 ?_
  refine V_iconst dX12_layTrained_178 ?_
  refine V_iconst dX12_layTrained_179 ?_
  refine V_bipush dX12_layTrained_180 rfl ?_
  refine V_callV (as := [_, _, _, _]) ml_X12_437 im_X12_boundLaw se_X12_boundLaw kk104 (by decide) (by decide) dX12_layTrained_182 rfl rfl (by decide) (by decide) (Nat.le_of_ble_eq_true rfl) (by decide) (by decide) rfl (c_boundLaw hρ hT2 hk (w := 5) (by omega) (fun j hj => ⟨n2 j hj, nb j⟩) (by first | assumption | (unfold ri at *; omega)) (by first | assumption | (unfold ri at *; omega)) (by first | assumption | (unfold ri at *; omega))) ?_
  rintro r182 ρ182 f182 g182 ⟨rfl, s182_0, ev3⟩
  obtain rfl := s182_0.symm
  refine V_iadd dX12_layTrained_185 ?_
  refine V_is7 dX12_layTrained_186 (by decide) rfl ?_
  refine V_il5 dX12_layTrained_188 ?_
  refine V_il11 dX12_layTrained_190 ?_
  refine V_iadd dX12_layTrained_192 ?_
  refine V_callS (as := [_]) ml_X12_552 sm_X12_inForm dX12_layTrained_193 rfl rfl (by decide) (by decide) (Nat.le_of_ble_eq_true rfl) (by decide) (by decide) rfl (c_inForm (by unfold ri; omega)) ?_
  refine pq4 ?_
  refine V_is5 dX12_layTrained_196 (by decide) rfl ?_
  refine V_il6 dX12_layTrained_198 ?_
  refine V_il12 dX12_layTrained_200 ?_
  refine V_iadd dX12_layTrained_202 ?_
  refine V_callS (as := [_]) ml_X12_552 sm_X12_inForm dX12_layTrained_203 rfl rfl (by decide) (by decide) (Nat.le_of_ble_eq_true rfl) (by decide) (by decide) rfl (c_inForm (by unfold ri; omega)) ?_
  refine pq4 ?_
  refine V_is6 dX12_layTrained_206 (by decide) rfl ?_
  refine V_inc9 dX12_layTrained_208 (by decide) rfl ?_
  refine V_goto (tgt := 44) dX12_layTrained_211 rfl ?_
  exact V_weak (by repeat (first | exact wk_n | refine wk_c (Or.inr rfl) ?_ | refine wk_c (Or.inl rfl) ?_)) (hC f182 g182 (fun a k q => (ev3.1 a k (by omega)).trans ((ev2.1 a k (by omega)).trans (ev1.1 a k (by omega)))) (fun a q1 q2 => by rw [ev3.2 a q2, ev2.2 a q2, ev1.2 a q2]; simp only [u2_row q1]))
theorem w_tr44 {T : TT} {Q : QT} {ρ : RT} {f0 : IT} {g0 : JT} (hρ : Fx ρ) (hk : TOK T) {m n c : Nat} (hm : m < nMe T) (hn : 1 ≤ n ∧ n ≤ 6) (hc : c < 4096) {mo : Int} {R : TS}
    (hX : ∀ (f : IT) (g : JT), KS f0 f → KG g0 g → TSR n R → V_X12_layTrained Q 214 [.ref 104, .int (iz (m : Int)), .int (iz (n : Int)), .int (iz mo), .int (iz (c : Int)), .int (iz R.1), .int (iz R.2.1), .int (iz R.2.2.1), .int (iz R.2.2.2), .null, .null, .null, .null] [] ρ f g)
    (i : Nat) (hi : i ≤ n) (f : IT) (g : JT) (s : TS) (hT : MT T f) (hf : KS f0 f) (hg : KG g0 g) (hs : TSR i s) (hR : R = csr T (T 115 m) (n - i) i s c) :
    V_X12_layTrained Q 44 [.ref 104, .int (iz (m : Int)), .int (iz (n : Int)), .int (iz mo), .int (iz (c : Int)), .int (iz s.1), .int (iz s.2.1), .int (iz s.2.2.1), .int (iz s.2.2.2), .int (iz (i : Int)), .null, .null, .null] [] ρ f g := by
  by_cases e : i = n
  · subst e
    rw [Nat.sub_self, csr] at hR
    subst hR
    refine V_il9 dX12_layTrained_44 ?_
    refine V_il2n dX12_layTrained_46 ?_
    refine V_icmp_ge (tgt := 214) dX12_layTrained_47 rfl (by first | assumption | (unfold ri at *; omega)) (by first | assumption | (unfold ri at *; omega)) (fun b47 => ?_) (fun b47 => ?_)
    · exact V_weak (by repeat (first | exact wk_n | refine wk_c (Or.inr rfl) ?_ | refine wk_c (Or.inl rfl) ?_)) (hX f g hf hg hs)
    · exfalso; omega
  · rw [show n - i = (n - 1 - i) + 1 by omega, csr] at hR
    have h5 := hk.me
    have hmm := hk.man hm
    have hd0 : c / 2 ^ (2 * (n - 1 - i)) % 4 < 4 := Nat.mod_lt _ (by omega)
    have hdv : (((c / 2 ^ (2 * (n - 1 - i)) % 4 : Nat)) : Int) = (c : Int) / 2 ^ (2 * (n - 1 - i)) % 4 := by simp
    generalize hd : c / 2 ^ (2 * (n - 1 - i)) % 4 = d at *
    have hpw : (2 : Nat) ^ (2 * i) ≤ 1024 := by
      have : (2 : Nat) ^ (2 * i) ≤ 2 ^ 10 := Nat.pow_le_pow_right (by omega) (by omega)
      omega
    have hs1 := wkS_rng (T := T) (wt := T 115 m) (i := i) (ld := (d : Int)) (by omega) hs
    have q4 := hs.2.2.2
    obtain ⟨L, eL⟩ : ∃ L : Nat, s.2.2.2 = L := ⟨s.2.2.2.toNat, by omega⟩
    have hL : L < 2 ^ (2 * i) := by
      have := q4.2
      rw [eL] at this
      have e2 : (2 : Int) ^ (2 * i) = ((2 ^ (2 * i) : Nat) : Int) := by simp
      rw [e2] at this
      omega
    have hdp : d * 2 ^ (2 * i) ≤ 3 * 1024 := Nat.mul_le_mul (by omega) hpw
    have hlo : s.2.2.2 + (d : Int) * 2 ^ (2 * i) = (wkS T (T 115 m) i (d : Int) s).2.2.2 := rfl
    refine V_il9 dX12_layTrained_44 ?_
    refine V_il2n dX12_layTrained_46 ?_
    refine V_icmp_ge (tgt := 214) dX12_layTrained_47 rfl (by first | assumption | (unfold ri at *; omega)) (by first | assumption | (unfold ri at *; omega)) (fun b47 => ?_) (fun b47 => ?_)
    · exfalso; omega
    · refine V_il4 dX12_layTrained_50 ?_
      refine V_iconst dX12_layTrained_52 ?_
      refine V_il2n dX12_layTrained_53 ?_
      refine V_iconst dX12_layTrained_54 ?_
      refine V_isub dX12_layTrained_55 ?_
      refine V_il9 dX12_layTrained_56 ?_
      refine V_isub dX12_layTrained_58 ?_
      refine V_imul dX12_layTrained_59 ?_
      refine V_ishr dX12_layTrained_60 (iz_shrE (b := 2 * (n - 1 - i)) (v := (c : Int) / 2 ^ (2 * (n - 1 - i))) (by unfold ri; omega) (by omega) (by omega) rfl) ?_
      refine V_iconst dX12_layTrained_61 ?_
      refine V_iand dX12_layTrained_62 ((iz_and3 _).trans (by rw [← hdv])) ?_
      refine V_is10 dX12_layTrained_63 (by decide) rfl ?_
      refine V_il8 dX12_layTrained_65 ?_
      refine V_il10 dX12_layTrained_67 ?_
      refine V_iconst dX12_layTrained_69 ?_
      refine V_il9 dX12_layTrained_70 ?_
      refine V_imul dX12_layTrained_72 ?_
      refine V_ishl dX12_layTrained_73 (iz_shlE (b := 2 * i) (v := (d : Int) * 2 ^ (2 * i)) (by omega) (by omega) rfl) ?_
      refine V_ior dX12_layTrained_74 (show iz s.2.2.2 ||| iz ((d : Int) * 2 ^ (2 * i)) = iz (s.2.2.2 + (d : Int) * 2 ^ (2 * i)) by rw [eL]; exact iz_orS hL (by omega)) ?_
      refine V_is8 dX12_layTrained_75 (by decide) rfl ?_
      refine V_iconst dX12_layTrained_77 ?_
      refine V_is11 dX12_layTrained_78 (by decide) rfl ?_
      refine w_tr80 (g0 := g) hρ (fun g1 z1 e1 => ?_) 0 (by omega) g (fun k hk => by omega) (fun a ha => rfl)
      exact w_tr101 hρ hT hk hm (by omega) hd0 hs z1 (fun f1 g2 k1 k2 => w_tr44 hρ hk hm hn hc hX (i + 1) (by omega) f1 g2 (wkS T (T 115 m) i (d : Int) s) (k1.mt hT) (hf.tr k1) (hg.tr (KG.tr (fun a a1 a2 => e1 a a1) k2)) hs1 (by rw [hR, show n - (i + 1) = n - 1 - i by omega]))
termination_by n - i
/-- one code, and all from one on -/
theorem w_tr19 {T : TT} {Q : QT} {ρ : RT} {f0 : IT} {g0 : JT} (hρ : Fx ρ) (hk : TOK T) {m n N : Nat} (hm : m < nMe T) (hn : 1 ≤ n ∧ n ≤ 6) (eN : 2 ^ (2 * n) = N) {mo : Int} (hmo : 0 ≤ mo ∧ mo ≤ 999) {R : Int × Int × Int}
    (hQ : ∀ (f : IT) (g : JT), KM f0 f → KM g0 g → f 104 87 = R.1 → f 104 88 = R.2.1 → f 104 89 = R.2.2 → Q none ρ f g)
    (c : Nat) (hc : c ≤ N) (f : IT) (g : JT) (b : Int × Int × Int) (hT : MT T f) (hf : KM f0 f) (hg : KM g0 g) (h1 : f 104 87 = b.1) (h2 : f 104 88 = b.2.1) (h3 : f 104 89 = b.2.2) (hb : (-99 ≤ b.1 ∧ b.1 ≤ 60) ∧ (-1 ≤ b.2.1 ∧ b.2.1 ≤ 999) ∧ (-1 ≤ b.2.2 ∧ b.2.2 ≤ 4096)) (hR : R = fdT T (T 115 m) mo n (N - c) c b) :
    V_X12_layTrained Q 19 [.ref 104, .int (iz (m : Int)), .int (iz (n : Int)), .int (iz mo), .int (iz (c : Int)), .null, .null, .null, .null, .null, .null, .null, .null] [] ρ f g := by
  have hN : N ≤ 4096 := by
    rw [← eN]
    have : (2 : Nat) ^ (2 * n) ≤ 2 ^ 12 := Nat.pow_le_pow_right (by omega) (by omega)
    omega
  have eNi : (1 : Int) * 2 ^ (2 * n) = (N : Int) := by rw [← eN]; simp
  by_cases e : c = N
  · subst e
    rw [Nat.sub_self, fdT] at hR
    subst hR
    refine V_il4 dX12_layTrained_19 ?_
    refine V_iconst dX12_layTrained_21 ?_
    refine V_iconst dX12_layTrained_22 ?_
    refine V_il2n dX12_layTrained_23 ?_
    refine V_imul dX12_layTrained_24 ?_
    refine V_ishl dX12_layTrained_25 (iz_shlE (b := 2 * n) (v := (c : Int)) (by omega) (by omega) eNi) ?_
    refine V_icmp_ge (tgt := 288) dX12_layTrained_26 rfl (by first | assumption | (unfold ri at *; omega)) (by first | assumption | (unfold ri at *; omega)) (fun b26 => ?_) (fun b26 => ?_)
    · exact V_return rfl (hQ f g hf hg h1 h2 h3) dX12_layTrained_288
    · exfalso; omega
  · rw [show N - c = (N - (c + 1)) + 1 by omega, fdT] at hR
    have hX : ∀ (f1 : IT) (g1 : JT), KS f f1 → KG g g1 → TSR n (csr T (T 115 m) n 0 (0, 0, 0, 0) c) → V_X12_layTrained Q 214 [.ref 104, .int (iz (m : Int)), .int (iz (n : Int)), .int (iz mo), .int (iz (c : Int)), .int (iz (csr T (T 115 m) n 0 (0, 0, 0, 0) c).1), .int (iz (csr T (T 115 m) n 0 (0, 0, 0, 0) c).2.1), .int (iz (csr T (T 115 m) n 0 (0, 0, 0, 0) c).2.2.1), .int (iz (csr T (T 115 m) n 0 (0, 0, 0, 0) c).2.2.2), .null, .null, .null, .null] [] ρ f1 g1 := by
      intro f1 g1 k1 k2 hs
      generalize csr T (T 115 m) n 0 (0, 0, 0, 0) c = s at *
      obtain ⟨q1, q2, q3, q4⟩ := hs
      have q4' : s.2.2.2 < 4096 := by
        have e2 : (2 : Int) ^ (2 * n) = (N : Int) := by rw [← eNi]; simp
        rw [e2] at q4
        omega
      have e1 : f1 104 87 = b.1 := (k1 104 87 (by omega)).trans h1
      have e2 : f1 104 88 = b.2.1 := (k1 104 88 (by omega)).trans h2
      have e3 : f1 104 89 = b.2.2 := (k1 104 89 (by omega)).trans h3
      refine V_il5 dX12_layTrained_214 ?_
      refine V_il6 dX12_layTrained_216 ?_
      refine V_isub dX12_layTrained_218 ?_
      refine V_is9 dX12_layTrained_219 (by decide) rfl ?_
      refine V_il7 dX12_layTrained_221 ?_
      refine V_il3n dX12_layTrained_223 ?_
      refine V_icmp_gt (tgt := 282) dX12_layTrained_224 rfl (by first | assumption | (unfold ri at *; omega)) (by first | assumption | (unfold ri at *; omega)) (fun b224 => ?_) (fun b224 => ?_)
      · refine V_inc4 dX12_layTrained_282 (by decide) rfl ?_
        refine V_goto (tgt := 19) dX12_layTrained_285 rfl ?_
        have hw : wgh mo s b = b := by unfold wgh; rw [if_pos (by omega)]
        rw [hw] at hR
        exact V_weak (by repeat (first | exact wk_n | refine wk_c (Or.inr rfl) ?_ | refine wk_c (Or.inl rfl) ?_)) (w_tr19 hρ hk hm hn eN hmo hQ (c + 1) (by omega) f1 g1 b (k1.mt hT) (hf.tr k1.km) (hg.tr k2.km) e1 e2 e3 hb hR)
      · refine V_al0n dX12_layTrained_227 ?_
        refine V_getI kk104 (by decide) fl_X12_549 e3 dX12_layTrained_228 ?_
        refine V_if_lt (tgt := 264) dX12_layTrained_231 rfl (by first | assumption | (unfold ri at *; omega)) (fun b231 => ?_) (fun b231 => ?_)
        · refine V_al0n dX12_layTrained_264 ?_
          refine V_il9 dX12_layTrained_265 ?_
          refine V_putI kk104 (by decide) fl_X12_543 rfl dX12_layTrained_267 ?_
          refine V_al0n dX12_layTrained_270 ?_
          refine V_il7 dX12_layTrained_271 ?_
          refine V_putI kk104 (by decide) fl_X12_546 rfl dX12_layTrained_273 ?_
          refine V_al0n dX12_layTrained_276 ?_
          refine V_il8 dX12_layTrained_277 ?_
          refine V_putI kk104 (by decide) fl_X12_549 rfl dX12_layTrained_279 ?_
          refine V_inc4 dX12_layTrained_282 (by decide) rfl ?_
          refine V_goto (tgt := 19) dX12_layTrained_285 rfl ?_
          have hw : wgh mo s b = (s.1 - s.2.1, s.2.2.1, s.2.2.2) := by unfold wgh; rw [if_neg (by omega)]
          rw [hw] at hR
          have kx : KM f1 (u2 (u2 (u2 f1 104 87 (s.1 - s.2.1)) 104 88 s.2.2.1) 104 89 s.2.2.2) := KM.u2 rfl (KM.u2 rfl (KM.u2 rfl KM.rf))
          exact V_weak (by repeat (first | exact wk_n | refine wk_c (Or.inr rfl) ?_ | refine wk_c (Or.inl rfl) ?_)) (w_tr19 hρ hk hm hn eN hmo hQ (c + 1) (by omega) _ g1 _ ((k1.mt hT).km kx) ((hf.tr k1.km).tr kx) (hg.tr k2.km) (by simp [u2]) (by simp [u2]) (by simp [u2]) (by simp only; omega) hR)
        · refine V_il9 dX12_layTrained_234 ?_
          refine V_al0n dX12_layTrained_236 ?_
          refine V_getI kk104 (by decide) fl_X12_543 e1 dX12_layTrained_237 ?_
          refine V_icmp_lt (tgt := 282) dX12_layTrained_240 rfl (by first | assumption | (unfold ri at *; omega)) (by first | assumption | (unfold ri at *; omega)) (fun b240 => ?_) (fun b240 => ?_)
          · refine V_inc4 dX12_layTrained_282 (by decide) rfl ?_
            refine V_goto (tgt := 19) dX12_layTrained_285 rfl ?_
            have hw : wgh mo s b = b := by unfold wgh; rw [if_pos (by omega)]
            rw [hw] at hR
            exact V_weak (by repeat (first | exact wk_n | refine wk_c (Or.inr rfl) ?_ | refine wk_c (Or.inl rfl) ?_)) (w_tr19 hρ hk hm hn eN hmo hQ (c + 1) (by omega) f1 g1 b (k1.mt hT) (hf.tr k1.km) (hg.tr k2.km) e1 e2 e3 hb hR)
          · refine V_il9 dX12_layTrained_243 ?_
            refine V_al0n dX12_layTrained_245 ?_
            refine V_getI kk104 (by decide) fl_X12_543 e1 dX12_layTrained_246 ?_
            refine V_icmp_ne (tgt := 264) dX12_layTrained_249 rfl (by first | assumption | (unfold ri at *; omega)) (by first | assumption | (unfold ri at *; omega)) (fun b249 => ?_) (fun b249 => ?_)
            · refine V_al0n dX12_layTrained_264 ?_
              refine V_il9 dX12_layTrained_265 ?_
              refine V_putI kk104 (by decide) fl_X12_543 rfl dX12_layTrained_267 ?_
              refine V_al0n dX12_layTrained_270 ?_
              refine V_il7 dX12_layTrained_271 ?_
              refine V_putI kk104 (by decide) fl_X12_546 rfl dX12_layTrained_273 ?_
              refine V_al0n dX12_layTrained_276 ?_
              refine V_il8 dX12_layTrained_277 ?_
              refine V_putI kk104 (by decide) fl_X12_549 rfl dX12_layTrained_279 ?_
              refine V_inc4 dX12_layTrained_282 (by decide) rfl ?_
              refine V_goto (tgt := 19) dX12_layTrained_285 rfl ?_
              have hw : wgh mo s b = (s.1 - s.2.1, s.2.2.1, s.2.2.2) := by unfold wgh; rw [if_neg (by omega)]
              rw [hw] at hR
              have kx : KM f1 (u2 (u2 (u2 f1 104 87 (s.1 - s.2.1)) 104 88 s.2.2.1) 104 89 s.2.2.2) := KM.u2 rfl (KM.u2 rfl (KM.u2 rfl KM.rf))
              exact V_weak (by repeat (first | exact wk_n | refine wk_c (Or.inr rfl) ?_ | refine wk_c (Or.inl rfl) ?_)) (w_tr19 hρ hk hm hn eN hmo hQ (c + 1) (by omega) _ g1 _ ((k1.mt hT).km kx) ((hf.tr k1.km).tr kx) (hg.tr k2.km) (by simp [u2]) (by simp [u2]) (by simp [u2]) (by simp only; omega) hR)
            · refine V_il7 dX12_layTrained_252 ?_
              refine V_al0n dX12_layTrained_254 ?_
              refine V_getI kk104 (by decide) fl_X12_546 e2 dX12_layTrained_255 ?_
              refine V_icmp_lt (tgt := 264) dX12_layTrained_258 rfl (by first | assumption | (unfold ri at *; omega)) (by first | assumption | (unfold ri at *; omega)) (fun b258 => ?_) (fun b258 => ?_)
              · refine V_al0n dX12_layTrained_264 ?_
                refine V_il9 dX12_layTrained_265 ?_
                refine V_putI kk104 (by decide) fl_X12_543 rfl dX12_layTrained_267 ?_
                refine V_al0n dX12_layTrained_270 ?_
                refine V_il7 dX12_layTrained_271 ?_
                refine V_putI kk104 (by decide) fl_X12_546 rfl dX12_layTrained_273 ?_
                refine V_al0n dX12_layTrained_276 ?_
                refine V_il8 dX12_layTrained_277 ?_
                refine V_putI kk104 (by decide) fl_X12_549 rfl dX12_layTrained_279 ?_
                refine V_inc4 dX12_layTrained_282 (by decide) rfl ?_
                refine V_goto (tgt := 19) dX12_layTrained_285 rfl ?_
                have hw : wgh mo s b = (s.1 - s.2.1, s.2.2.1, s.2.2.2) := by unfold wgh; rw [if_neg (by omega)]
                rw [hw] at hR
                have kx : KM f1 (u2 (u2 (u2 f1 104 87 (s.1 - s.2.1)) 104 88 s.2.2.1) 104 89 s.2.2.2) := KM.u2 rfl (KM.u2 rfl (KM.u2 rfl KM.rf))
                exact V_weak (by repeat (first | exact wk_n | refine wk_c (Or.inr rfl) ?_ | refine wk_c (Or.inl rfl) ?_)) (w_tr19 hρ hk hm hn eN hmo hQ (c + 1) (by omega) _ g1 _ ((k1.mt hT).km kx) ((hf.tr k1.km).tr kx) (hg.tr k2.km) (by simp [u2]) (by simp [u2]) (by simp [u2]) (by simp only; omega) hR)
              · refine V_goto (tgt := 282) dX12_layTrained_261 rfl ?_
                refine V_inc4 dX12_layTrained_282 (by decide) rfl ?_
                refine V_goto (tgt := 19) dX12_layTrained_285 rfl ?_
                have hw : wgh mo s b = b := by unfold wgh; rw [if_pos (by omega)]
                rw [hw] at hR
                exact V_weak (by repeat (first | exact wk_n | refine wk_c (Or.inr rfl) ?_ | refine wk_c (Or.inl rfl) ?_)) (w_tr19 hρ hk hm hn eN hmo hQ (c + 1) (by omega) f1 g1 b (k1.mt hT) (hf.tr k1.km) (hg.tr k2.km) e1 e2 e3 hb hR)
    have h44 := w_tr44 hρ hk hm hn (by omega) hX 0 (by omega) f g (0, 0, 0, 0) hT KS.rf KG.rf (by unfold TSR; simp) rfl
    refine V_il4 dX12_layTrained_19 ?_
    refine V_iconst dX12_layTrained_21 ?_
    refine V_iconst dX12_layTrained_22 ?_
    refine V_il2n dX12_layTrained_23 ?_
    refine V_imul dX12_layTrained_24 ?_
    refine V_ishl dX12_layTrained_25 (iz_shlE (b := 2 * n) (v := (N : Int)) (by omega) (by omega) eNi) ?_
    refine V_icmp_ge (tgt := 288) dX12_layTrained_26 rfl (by first | assumption | (unfold ri at *; omega)) (by first | assumption | (unfold ri at *; omega)) (fun b26 => ?_) (fun b26 => ?_)
    · exfalso; omega
    · refine V_iconst dX12_layTrained_29 ?_
      refine V_is5 dX12_layTrained_30 (by decide) rfl ?_
      refine V_iconst dX12_layTrained_32 ?_
      refine V_is6 dX12_layTrained_33 (by decide) rfl ?_
      refine V_iconst dX12_layTrained_35 ?_
      refine V_is7 dX12_layTrained_36 (by decide) rfl ?_
      refine V_iconst dX12_layTrained_38 ?_
      refine V_is8 dX12_layTrained_39 (by decide) rfl ?_
      refine V_iconst dX12_layTrained_41 ?_
      refine V_is9 dX12_layTrained_42 (by decide) rfl ?_
      exact h44
termination_by N - c
def trT (T : TT) (wt mo : Int) (n : Nat) : Int × Int × Int := fdT T wt mo n (2 ^ (2 * n)) 0 (-99, -1, -1)
theorem c_layTrained {T : TT} {ρ : RT} {f : IT} {g : JT} (hρ : Fx ρ) (hT : MT T f) (hk : TOK T) {m n : Nat} (hm : m < nMe T) (hn : 1 ≤ n ∧ n ≤ 6) {mo : Int} (hmo : 0 ≤ mo ∧ mo ≤ 999) :
    C_X12_layTrained [.ref 104, .int (iz (m : Int)), .int (iz (n : Int)), .int (iz mo)] ρ f g (fun r ρ' f' g' => r = none ∧ ρ' = ρ ∧ KM f f' ∧ KM g g' ∧ f' 104 87 = (trT T (T 115 m) mo n).1 ∧ f' 104 88 = (trT T (T 115 m) mo n).2.1 ∧ f' 104 89 = (trT T (T 115 m) mo n).2.2) := by
  have kx : KM f (u2 (u2 (u2 f 104 87 (-99)) 104 88 (-1)) 104 89 (-1)) := KM.u2 rfl (KM.u2 rfl (KM.u2 rfl KM.rf))
  refine Ct.ofV (by decide) rfl (Nat.le_of_ble_eq_true rfl) ?_
  refine V_al0n dX12_layTrained_0 ?_
  refine V_bipush dX12_layTrained_1 rfl ?_
  refine V_putI kk104 (by decide) fl_X12_543 rfl dX12_layTrained_3 ?_
  refine V_al0n dX12_layTrained_6 ?_
  refine V_iconst dX12_layTrained_7 ?_
  refine V_putI kk104 (by decide) fl_X12_546 rfl dX12_layTrained_8 ?_
  refine V_al0n dX12_layTrained_11 ?_
  refine V_iconst dX12_layTrained_12 ?_
  refine V_putI kk104 (by decide) fl_X12_549 rfl dX12_layTrained_13 ?_
  refine V_iconst dX12_layTrained_16 ?_
  refine V_is4 dX12_layTrained_17 (by decide) rfl ?_
  exact w_tr19 hρ hk hm hn rfl hmo (fun f' g' a1 a2 a3 a4 a5 => ⟨rfl, rfl, a1, a2, a3, a4, a5⟩) 0 (Nat.zero_le _) _ g (-99, -1, -1) (hT.km kx) kx KM.rf (by simp [u2]) (by simp [u2]) (by simp [u2]) (by simp only; omega) rfl
def aTrained (T : TT) (m n mo w : Int) : Int := if (okM T m && zin n 1 6 && zin mo 0 999 && zin w 0 2) = true then (if w = 0 then (trT T (T 115 m.toNat) mo n.toNat).1 else if w = 1 then (trT T (T 115 m.toNat) mo n.toNat).2.1 else (trT T (T 115 m.toNat) mo n.toNat).2.2) else -999
theorem c_mtrained {T : TT} {ρ : RT} {f : IT} {g : JT} (hρ : Fx ρ) (hT : MT T f) (hk : TOK T) {m n mo w : Int} (rm : ri m) (rn_ : ri n) (ro : ri mo) (rw_ : ri w) :
    C_X12_trained [.ref 104, .int (iz m), .int (iz n), .int (iz mo), .int (iz w)] ρ f g (fun r ρ' f' g' => r = some (.int (iz (aTrained T m n mo w))) ∧ ρ' = ρ ∧ KM f f' ∧ KM g g') := by
  have k0 : KM f (u2 f 104 2 0) := KM.u2 rfl KM.rf
  have hT1 : MT T (u2 f 104 2 0) := hT.km k0
  have h5 := hk.me
  refine Ct.ofV (by decide) rfl (Nat.le_of_ble_eq_true rfl) ?_
  refine V_al0n dX12_trained_0 ?_
  refine V_iconst dX12_trained_1 ?_
  refine V_putI kk104 (by decide) fl_X12_154 rfl dX12_trained_2 ?_
  refine V_al0n dX12_trained_5 ?_
  refine V_il1n dX12_trained_6 ?_
  refine V_callV (as := [_]) ml_X12_462 im_X12_isMan se_X12_isMan kk104 (by decide) (by decide) dX12_trained_7 rfl rfl (by decide) (by decide) (Nat.le_of_ble_eq_true rfl) (by decide) (by decide) rfl (c_isMan rm ((hT1 104 13 rfl).trans h5.1) (by unfold ri; omega)) ?_
  refine pq4 ?_
  refine V_bt (tgt := 44) dX12_trained_10 rfl (fun b10 => ?_) (fun b10 => ?_)
  · refine V_sipush dX12_trained_44 rfl ?_
    exact V_ireturn rfl ⟨by unfold aTrained okM; simp only [*]; simp, rfl, k0, KM.rf⟩ dX12_trained_47
  · refine V_il2n dX12_trained_13 ?_
    refine V_iconst dX12_trained_14 ?_
    refine V_bipush dX12_trained_15 rfl ?_
    refine V_callS (as := [_, _, _]) ml_X12_199 sm_X12_isIn dX12_trained_17 rfl rfl (by decide) (by decide) (Nat.le_of_ble_eq_true rfl) (by decide) (by decide) rfl (c_isIn rn_ (by unfold ri; omega) (by unfold ri; omega)) ?_
    refine pq4 ?_
    refine V_bt (tgt := 44) dX12_trained_20 rfl (fun b20 => ?_) (fun b20 => ?_)
    · refine V_sipush dX12_trained_44 rfl ?_
      exact V_ireturn rfl ⟨by unfold aTrained okM; simp only [*]; simp, rfl, k0, KM.rf⟩ dX12_trained_47
    · refine V_il3n dX12_trained_23 ?_
      refine V_iconst dX12_trained_24 ?_
      refine V_sipush dX12_trained_25 rfl ?_
      refine V_callS (as := [_, _, _]) ml_X12_199 sm_X12_isIn dX12_trained_28 rfl rfl (by decide) (by decide) (Nat.le_of_ble_eq_true rfl) (by decide) (by decide) rfl (c_isIn ro (by unfold ri; omega) (by unfold ri; omega)) ?_
      refine pq4 ?_
      refine V_bt (tgt := 44) dX12_trained_31 rfl (fun b31 => ?_) (fun b31 => ?_)
      · refine V_sipush dX12_trained_44 rfl ?_
        exact V_ireturn rfl ⟨by unfold aTrained okM; simp only [*]; simp, rfl, k0, KM.rf⟩ dX12_trained_47
      · refine V_il4 dX12_trained_34 ?_
        refine V_iconst dX12_trained_36 ?_
        refine V_iconst dX12_trained_37 ?_
        refine V_callS (as := [_, _, _]) ml_X12_199 sm_X12_isIn dX12_trained_38 rfl rfl (by decide) (by decide) (Nat.le_of_ble_eq_true rfl) (by decide) (by decide) rfl (c_isIn rw_ (by unfold ri; omega) (by unfold ri; omega)) ?_
        refine pq4 ?_
        refine V_bf (tgt := 48) dX12_trained_41 rfl (fun b41 => ?_) (fun b41 => ?_)
        · have c1 := b10
          have c2 := b20
          have c3 := b31
          unfold zin at c2 c3
          simp only [decide_eq_true_eq] at c1 c2 c3
          obtain ⟨mN, rfl⟩ : ∃ n : Nat, m = n := ⟨m.toNat, by omega⟩
          obtain ⟨nN, rfl⟩ : ∃ k : Nat, n = k := ⟨n.toNat, by omega⟩
          have ea : aTrained T (mN : Int) (nN : Int) mo w = (if w = 0 then (trT T (T 115 mN) mo nN).1 else if w = 1 then (trT T (T 115 mN) mo nN).2.1 else (trT T (T 115 mN) mo nN).2.2) := by unfold aTrained okM; simp only [b10, b20, b31, b41]; simp
          refine V_al0n dX12_trained_48 ?_
          refine V_il1n dX12_trained_49 ?_
          refine V_il2n dX12_trained_50 ?_
          refine V_il3n dX12_trained_51 ?_
          refine V_callV (as := [_, _, _]) ml_X12_555 im_X12_layTrained se_X12_layTrained kk104 (by decide) (by decide) dX12_trained_52 rfl rfl (by decide) (by decide) (Nat.le_of_ble_eq_true rfl) (by decide) (by decide) rfl (c_layTrained hρ hT1 hk (m := mN) (n := nN) (by omega) (by omega) (by omega)) ?_
          rintro r52 ρ52 f52 g52 ⟨rfl, s52_0, k52, l52, t1, t2, t3⟩
          obtain rfl := s52_0.symm
          refine V_il4 dX12_trained_55 ?_
          refine V_if_ne (tgt := 67) dX12_trained_57 rfl (by first | assumption | (unfold ri at *; omega)) (fun b57 => ?_) (fun b57 => ?_)
          · refine V_il4 dX12_trained_67 ?_
            refine V_iconst dX12_trained_69 ?_
            refine V_icmp_ne (tgt := 80) dX12_trained_70 rfl (by first | assumption | (unfold ri at *; omega)) (by first | assumption | (unfold ri at *; omega)) (fun b70 => ?_) (fun b70 => ?_)
            · refine V_al0n dX12_trained_80 ?_
              refine V_getI kk104 (by decide) fl_X12_549 t3 dX12_trained_81 ?_
              exact V_ireturn rfl ⟨by rw [ea]; first | rw [if_pos (by omega)] | rw [if_neg (by omega), if_pos (by omega)] | rw [if_neg (by omega), if_neg (by omega)], rfl, k0.tr k52, l52⟩ dX12_trained_84
            · refine V_al0n dX12_trained_73 ?_
              refine V_getI kk104 (by decide) fl_X12_546 t2 dX12_trained_74 ?_
              refine V_goto (tgt := 84) dX12_trained_77 rfl ?_
              exact V_ireturn rfl ⟨by rw [ea]; first | rw [if_pos (by omega)] | rw [if_neg (by omega), if_pos (by omega)] | rw [if_neg (by omega), if_neg (by omega)], rfl, k0.tr k52, l52⟩ dX12_trained_84
          · refine V_al0n dX12_trained_60 ?_
            refine V_getI kk104 (by decide) fl_X12_543 t1 dX12_trained_61 ?_
            refine V_goto (tgt := 84) dX12_trained_64 rfl ?_
            exact V_ireturn rfl ⟨by rw [ea]; first | rw [if_pos (by omega)] | rw [if_neg (by omega), if_pos (by omega)] | rw [if_neg (by omega), if_neg (by omega)], rfl, k0.tr k52, l52⟩ dX12_trained_84
        · refine V_sipush dX12_trained_44 rfl ?_
          exact V_ireturn rfl ⟨by unfold aTrained okM; simp only [*]; simp, rfl, k0, KM.rf⟩ dX12_trained_47

