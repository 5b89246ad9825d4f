/-- the rows of the least tenths and the paces may change too -/
def KL (f f' : IT) : Prop := ∀ a k, ¬ (a = 104 ∧ (k = 66 ∨ 74 ≤ k ∧ k ≤ 77)) → a ≠ 140 → a ≠ 141 → f' a k = f a k
theorem KL.rf {f : IT} : KL f f := fun _ _ _ _ _ => rfl
theorem KL.tr {f f' f'' : IT} (h : KL f f') (h' : KL f' f'') : KL f f'' := fun a k q r s => (h' a k q r s).trans (h a k q r s)
theorem KS.kl {f f' : IT} (h : KS f f') : KL f f' := fun a k q _ _ => h a k q
theorem KL.u0 {f f' : IT} {k : Nat} {x : Int} (h : KL f f') : KL f (u2 f' 140 k x) := fun a j q r s => (u2_o (fun z => r z.1)).trans (h a j q r s)
theorem KL.u1 {f f' : IT} {k : Nat} {x : Int} (h : KL f f') : KL f (u2 f' 141 k x) := fun a j q r s => (u2_o (fun z => s z.1)).trans (h a j q r s)
theorem KL.mt {T : TT} {f f' : IT} (h : KL f f') (hT : MT T f) : MT T f' := fun a k ht => (h a k (fun q => by
  unfold tx half at ht
  obtain ⟨rfl, q⟩ := q
  simp at ht
  omega) (fun q => by subst q; simp [tx, half] at ht) (fun q => by subst q; simp [tx, half] at ht)).trans (hT a k ht)
theorem KL.mc {c : CC} {f f' : IT} (h : KL f f') (hM : MC c f) : MC c f' := ⟨(h 104 72 (by omega) (by omega) (by omega)).trans hM.1, (h 104 68 (by omega) (by omega) (by omega)).trans hM.2.1, (h 104 71 (by omega) (by omega) (by omega)).trans hM.2.2.1, (h 104 70 (by omega) (by omega) (by omega)).trans hM.2.2.2.1, (h 104 73 (by omega) (by omega) (by omega)).trans hM.2.2.2.2⟩
/-- a spot's rows hold this -/
def At2 (f : IT) (j : Nat) (x : Int × Int) : Prop := f 140 j = x.1 ∧ (x.1 ≠ 99999 → x.2 ≠ 0 → f 141 j = x.2)
/-- the spots behind (K, I), where they are reached, hold what is to be -/
def DoneL (T : TT) (c : CC) (hc q : Int) (f : IT) (K I : Nat) : Prop := ∀ k i, i < 2501 → k ≤ nLa T → (K < k ∨ (k = K ∧ i < I)) → (k < nLa T → f 139 (2501 * k + i) = 1) → At2 f (2501 * k + i) (vst T c hc q (nLa T - k) k i)
def LI (T : TT) (c : CC) (hc q : Int) (f0 f : IT) (g0 g : JT) : Prop := MT T f ∧ MC c f ∧ KL f0 f ∧ KG g0 g ∧ (∀ j, j < 17507 → f 139 j = 0 ∨ f 139 j = 1) ∧ DoneR T c hc q (f 139) (nLa T) 0
theorem LI.kl {T : TT} {c : CC} {hc q : Int} {f0 f f' : IT} {g0 g g' : JT} (h : LI T c hc q f0 f g0 g) (kl : KL f f') (kg : KG g g') : LI T c hc q f0 f' g0 g' := by
  have row : f' 139 = f 139 := funext fun j => kl 139 j (by omega) (by omega) (by omega)
  exact ⟨kl.mt h.1, kl.mc h.2.1, h.2.2.1.tr kl, h.2.2.2.1.tr kg, by rw [row]; exact h.2.2.2.2.1, by rw [row]; exact h.2.2.2.2.2⟩
theorem At2.ks {f f' : IT} {j : Nat} {x : Int × Int} (ks : KS f f') (h : At2 f j x) : At2 f' j x := ⟨(ks 140 j (by omega)).trans h.1, fun q q2 => (ks 141 j (by omega)).trans (h.2 q q2)⟩
theorem w_llP {T : TT} {Q : QT} {ρ : RT} {f0 : IT} {g0 : JT} (hρ : Fx ρ) (hk : TOK T) {h : Nat} (hh : h < nHo T) {c : CC} (hc : CR c) {q : Int} (hq : 0 ≤ q ∧ q ≤ 9) {k i : Nat} (hkl : k < nLa T) (hi : i < 2501)
    (hX : ∀ (f : IT) (g : JT), LI T c (T 117 h) q f0 f g0 g → DoneL T c (T 117 h) q f k (i + 1) → V_X12_layLeast Q 227 [.ref 104, .int (iz (h : Int)), .int (iz q), .int (iz (k : Int)), .int (iz (i : Int)), .null, .null] [] ρ f g)
    (p : Nat) (hp : 1 ≤ p ∧ p ≤ 10) (x : Int × Int) (hx : 0 ≤ x.1 ∧ x.1 ≤ 99999) (f : IT) (g : JT) (hI : LI T c (T 117 h) q f0 f g0 g) (hD : DoneL T c (T 117 h) q f k i) (hA : At2 f (2501 * k + i) x) (hR : f 139 (2501 * k + i) = 1 → bstep T c (T 117 h) q k i (fun j => (vst T c (T 117 h) q (nLa T - (k + 1)) (k + 1) j).1) (10 - p) p x = vst T c (T 117 h) q (nLa T - k) k i) :
    V_X12_layLeast Q 71 [.ref 104, .int (iz (h : Int)), .int (iz q), .int (iz (k : Int)), .int (iz (i : Int)), .int (iz (p : Int)), .null] [] ρ f g := by
  have h6 := hk.la
  obtain ⟨hT, hM, hkd, hkg, h01, hcl⟩ := hI
  have hI : LI T c (T 117 h) q f0 f g0 g := ⟨hT, hM, hkd, hkg, h01, hcl⟩
  have hb := h01 (2501 * k + i) (by omega)
  have fin : (f 139 (2501 * k + i) = 1 → p = 10) → DoneL T c (T 117 h) q f k (i + 1) := fun hd k' i' a1 a2 a3 a4 => by
    by_cases e : k' = k ∧ i' = i
    · have := a4 (by omega)
      rw [e.1, e.2] at this ⊢
      have e10 := hR this
      rw [hd this] at e10
      have e11 : x = vst T c (T 117 h) q (nLa T - k) k i := e10
      rw [← e11]
      exact hA
    · exact hD k' i' a1 a2 (by omega) a4
  refine V_il5 dX12_layLeast_71 ?_
  refine V_bipush dX12_layLeast_73 rfl ?_
  refine V_icmp_ge (tgt := 227) dX12_layLeast_75 rfl (by first | assumption | (unfold ri at *; omega)) (by first | assumption | (unfold ri at *; omega)) (fun b75 => ?_) (fun b75 => ?_)
  · have D := fin (fun _ => by omega)
    exact V_weak (by repeat (first | exact wk_n | refine wk_c (Or.inr rfl) ?_ | refine wk_c (Or.inl rfl) ?_)) (hX f g hI D)
  · refine V_al0n dX12_layLeast_78 ?_
    refine V_getR kk104 (by decide) fl_X12_118 (fx_104_84 hρ) dX12_layLeast_79 ?_
    refine V_sipush dX12_layLeast_82 rfl ?_
    refine V_il3n dX12_layLeast_85 ?_
    refine V_imul dX12_layLeast_86 ?_
    refine V_il4 dX12_layLeast_87 ?_
    refine V_iadd dX12_layLeast_89 ?_
    refine V_zald (k := 2501 * k + i) kk139 (by decide) (by first | rfl | omega) (by omega) (by first | decide | assumption | omega) rfl dX12_layLeast_90 ?_
    refine V_if_eq (tgt := 227) dX12_layLeast_91 rfl (by first | assumption | (unfold ri at *; omega)) (fun b91 => ?_) (fun b91 => ?_)
    · have D := fin (fun z => by omega)
      exact V_weak (by repeat (first | exact wk_n | refine wk_c (Or.inr rfl) ?_ | refine wk_c (Or.inl rfl) ?_)) (hX f g hI D)
    · have e1 : f 139 (2501 * k + i) = 1 := by omega
      have hR1 := hR e1
      rw [show 10 - p = (10 - (p + 1)) + 1 by omega, bstep] at hR1
      have tr := tq_rng hk hc hkl hh (p := p) (by omega) hi
      have vr := vst_rng hk hc hh (q := q) (nLa T - (k + 1)) (k + 1) (nsp T c (T 117 h) k p i) (by omega) tr.2.2.2
      refine V_il3n dX12_layLeast_94 ?_
      refine V_if_ne (tgt := 108) dX12_layLeast_95 rfl (by first | assumption | (unfold ri at *; omega)) (fun b95 => ?_) (fun b95 => ?_)
      · refine V_al0n dX12_layLeast_108 ?_
        refine V_il3n dX12_layLeast_109 ?_
        refine V_il1n dX12_layLeast_110 ?_
        refine V_il5 dX12_layLeast_111 ?_
        refine V_il4 dX12_layLeast_113 ?_
        refine V_bipush dX12_layLeast_115 rfl ?_
        refine V_idiv dX12_layLeast_117 (iz_ne (by unfold ri; omega) (by omega)) (iz_div (by omega) (by omega) (by unfold ri; omega) (by unfold ri; omega)) ?_
        refine V_il4 dX12_layLeast_118 ?_
        refine V_bipush dX12_layLeast_120 rfl ?_
        refine V_irem dX12_layLeast_122 (iz_ne (by unfold ri; omega) (by omega)) (iz_rem (by omega) (by omega) (by unfold ri; omega) (by unfold ri; omega)) ?_
        refine V_callV (as := [_, _, _, _, _]) ml_X12_521 im_X12_through se_X12_through kk104 (by decide) (by decide) dX12_layLeast_123 rfl rfl (by decide) (by decide) (Nat.le_of_ble_eq_true rfl) (by decide) (by decide) rfl (c_through hρ hT hk hkl hh hc hM (pa := (p : Int)) (w := ((i / 41 : Nat) : Int)) (l := ((i % 41 : Nat) : Int)) (by omega) (by omega) (by omega)) ?_
        rintro r123 ρ123 f123 g123 ⟨bb, rfl, s123_0, ks, kg, hb1, hb2⟩
        obtain rfl := s123_0.symm
        have row : f123 139 = f 139 := funext fun j => ks 139 j (by omega)
        have hI3 := hI.kl ks.kl kg
        have hD3 : DoneL T c (T 117 h) q f123 k i := fun k' i' a1 a2 a3 a4 => (hD k' i' a1 a2 a3 (fun z => by rw [← row]; exact a4 z)).ks ks
        have hA3 := hA.ks ks
        refine V_bf (tgt := 132) dX12_layLeast_126 rfl (fun b126 => ?_) (fun b126 => ?_)
        · have t9 : f123 104 76 = (tq T c (T 117 h) k p i).1 ∧ f123 104 74 = (tq T c (T 117 h) k p i).2.1 ∧ f123 104 75 = (tq T c (T 117 h) k p i).2.2.1 := hb2 b126
          obtain ⟨t1, t2, t3⟩ := t9
          have hle : (tq T c (T 117 h) k p i).2.2.1 ≠ 0 := hb1.mp b126
          have hrow : f123 140 (2501 * (k + 1) + nsp T c (T 117 h) k p i) = (vst T c (T 117 h) q (nLa T - (k + 1)) (k + 1) (nsp T c (T 117 h) k p i)).1 := (hD3 (k + 1) (nsp T c (T 117 h) k p i) tr.2.2.2 (by omega) (by omega) (fun z => by rw [row]; exact hcl k i hi (by omega) e1 p (by omega) (by omega) (by unfold alw; omega) hle)).1
          refine V_al0n dX12_layLeast_132 ?_
          refine V_getR kk104 (by decide) fl_X12_121 (fx_104_85 hρ) dX12_layLeast_133 ?_
          refine V_il3n dX12_layLeast_136 ?_
          refine V_iconst dX12_layLeast_137 ?_
          refine V_iadd dX12_layLeast_138 ?_
          refine V_al0n dX12_layLeast_139 ?_
          refine V_getI kk104 (by decide) fl_X12_417 t2 dX12_layLeast_140 ?_
          refine V_al0n dX12_layLeast_143 ?_
          refine V_getI kk104 (by decide) fl_X12_420 t3 dX12_layLeast_144 ?_
          refine V_callS (as := [_, _, _]) ml_X12_517 sm_X12_spot dX12_layLeast_147 rfl rfl (by decide) (by decide) (Nat.le_of_ble_eq_true rfl) (by decide) (by decide) rfl (c_spot) ?_
          refine pq4 ?_
          refine V_iald (k := 2501 * (k + 1) + nsp T c (T 117 h) k p i) kk140 (by decide) (by unfold nsp; omega) (by omega) (by first | decide | assumption | omega) hrow dX12_layLeast_150 ?_
          refine V_is6 dX12_layLeast_151 (by decide) rfl ?_
          refine V_il6 dX12_layLeast_153 ?_
          refine V_ldc (a := 99999) kc_X12_192 rfl dX12_layLeast_155 ?_
          refine V_icmp_eq (tgt := 221) dX12_layLeast_157 rfl (by first | assumption | (unfold ri at *; omega)) (by first | assumption | (unfold ri at *; omega)) (fun b157 => ?_) (fun b157 => ?_)
          · refine V_inc5 dX12_layLeast_221 (by decide) rfl ?_
            refine V_goto (tgt := 71) dX12_layLeast_224 rfl ?_
            exact V_weak (by repeat (first | exact wk_n | refine wk_c (Or.inr rfl) ?_ | refine wk_c (Or.inl rfl) ?_)) (w_llP hρ hk hh hc hq hkl hi hX (p + 1) (by omega) x hx f123 g123 hI3 hD3 hA3 (fun z => by rw [← hR1, if_neg (fun cc => cc.2.2.1 b157)]))
          · refine V_al0n dX12_layLeast_160 ?_
            refine V_getI kk104 (by decide) fl_X12_441 t1 dX12_layLeast_161 ?_
            refine V_il6 dX12_layLeast_164 ?_
            refine V_iadd dX12_layLeast_166 ?_
            refine V_al0n dX12_layLeast_167 ?_
            refine V_getR kk104 (by decide) fl_X12_121 (fx_104_85 hρ) dX12_layLeast_168 ?_
            refine V_sipush dX12_layLeast_171 rfl ?_
            refine V_il3n dX12_layLeast_174 ?_
            refine V_imul dX12_layLeast_175 ?_
            refine V_il4 dX12_layLeast_176 ?_
            refine V_iadd dX12_layLeast_178 ?_
            refine V_iald (k := 2501 * k + i) kk140 (by decide) (by first | rfl | omega) (by omega) (by first | decide | assumption | omega) hA3.1 dX12_layLeast_179 ?_
            refine V_icmp_lt (tgt := 186) dX12_layLeast_180 rfl (by first | assumption | (unfold ri at *; omega)) (by first | assumption | (unfold ri at *; omega)) (fun b180 => ?_) (fun b180 => ?_)
            · refine V_al0n dX12_layLeast_186 ?_
              refine V_getR kk104 (by decide) fl_X12_121 (fx_104_85 hρ) dX12_layLeast_187 ?_
              refine V_sipush dX12_layLeast_190 rfl ?_
              refine V_il3n dX12_layLeast_193 ?_
              refine V_imul dX12_layLeast_194 ?_
              refine V_il4 dX12_layLeast_195 ?_
              refine V_iadd dX12_layLeast_197 ?_
              refine V_al0n dX12_layLeast_198 ?_
              refine V_getI kk104 (by decide) fl_X12_441 t1 dX12_layLeast_199 ?_
              refine V_il6 dX12_layLeast_202 ?_
              refine V_iadd dX12_layLeast_204 ?_
              refine V_iast (k := 2501 * k + i) kk140 (by decide) (by first | rfl | omega) (by omega) (by first | decide | assumption | omega) dX12_layLeast_205 ?_
              refine V_al0n dX12_layLeast_206 ?_
              refine V_getR kk104 (by decide) fl_X12_124 (fx_104_86 hρ) dX12_layLeast_207 ?_
              refine V_sipush dX12_layLeast_210 rfl ?_
              refine V_il3n dX12_layLeast_213 ?_
              refine V_imul dX12_layLeast_214 ?_
              refine V_il4 dX12_layLeast_215 ?_
              refine V_iadd dX12_layLeast_217 ?_
              refine V_il5 dX12_layLeast_218 ?_
              refine V_iast (k := 2501 * k + i) kk141 (by decide) (by first | rfl | omega) (by omega) (by first | decide | assumption | omega) dX12_layLeast_220 ?_
              refine V_inc5 dX12_layLeast_221 (by decide) rfl ?_
              refine V_goto (tgt := 71) dX12_layLeast_224 rfl ?_
              exact V_weak (by repeat (first | exact wk_n | refine wk_c (Or.inr rfl) ?_ | refine wk_c (Or.inl rfl) ?_)) (w_llP hρ hk hh hc hq hkl hi hX (p + 1) (by omega) ((tq T c (T 117 h) k p i).1 + (vst T c (T 117 h) q (nLa T - (k + 1)) (k + 1) (nsp T c (T 117 h) k p i)).1, (p : Int)) (by simp only; omega) _ _ (hI3.kl (KL.u1 (KL.u0 KL.rf)) KG.rf) (fun k' i' a1 a2 a3 a4 => by
                have := hD3 k' i' a1 a2 a3 (fun z => by rw [← a4 z]; exact ((u2_o (by omega)).trans (u2_o (by omega))).symm)
                exact ⟨(u2_o (by omega)).trans ((u2_o (by omega)).trans this.1), fun z z2 => (u2_o (by omega)).trans ((u2_o (by omega)).trans (this.2 z z2))⟩) ⟨u2_n (by omega) u2_s, fun _ _ => u2_s⟩ (fun z => by rw [← hR1, if_pos ⟨by omega, hle, b157, b180⟩]))
            · refine V_goto (tgt := 221) dX12_layLeast_183 rfl ?_
              refine V_inc5 dX12_layLeast_221 (by decide) rfl ?_
              refine V_goto (tgt := 71) dX12_layLeast_224 rfl ?_
              exact V_weak (by repeat (first | exact wk_n | refine wk_c (Or.inr rfl) ?_ | refine wk_c (Or.inl rfl) ?_)) (w_llP hρ hk hh hc hq hkl hi hX (p + 1) (by omega) x hx f123 g123 hI3 hD3 hA3 (fun z => by rw [← hR1, if_neg (fun cc => b180 cc.2.2.2)]))
        · refine V_goto (tgt := 221) dX12_layLeast_129 rfl ?_
          refine V_inc5 dX12_layLeast_221 (by decide) rfl ?_
          refine V_goto (tgt := 71) dX12_layLeast_224 rfl ?_
          exact V_weak (by repeat (first | exact wk_n | refine wk_c (Or.inr rfl) ?_ | refine wk_c (Or.inl rfl) ?_)) (w_llP hρ hk hh hc hq hkl hi hX (p + 1) (by omega) x hx f123 g123 hI3 hD3 hA3 (fun z => by rw [← hR1, if_neg (fun cc => absurd (hb1.mpr cc.2.1) (by rw [b126]; exact Bool.false_ne_true))]))
      · refine V_il2n dX12_layLeast_98 ?_
        refine V_if_le (tgt := 108) dX12_layLeast_99 rfl (by first | assumption | (unfold ri at *; omega)) (fun b99 => ?_) (fun b99 => ?_)
        · refine V_al0n dX12_layLeast_108 ?_
          refine V_il3n dX12_layLeast_109 ?_
          refine V_il1n dX12_layLeast_110 ?_
          refine V_il5 dX12_layLeast_111 ?_
          refine V_il4 dX12_layLeast_113 ?_
          refine V_bipush dX12_layLeast_115 rfl ?_
          refine V_idiv dX12_layLeast_117 (iz_ne (by unfold ri; omega) (by omega)) (iz_div (by omega) (by omega) (by unfold ri; omega) (by unfold ri; omega)) ?_
          refine V_il4 dX12_layLeast_118 ?_
          refine V_bipush dX12_layLeast_120 rfl ?_
          refine V_irem dX12_layLeast_122 (iz_ne (by unfold ri; omega) (by omega)) (iz_rem (by omega) (by omega) (by unfold ri; omega) (by unfold ri; omega)) ?_
          refine V_callV (as := [_, _, _, _, _]) ml_X12_521 im_X12_through se_X12_through kk104 (by decide) (by decide) dX12_layLeast_123 rfl rfl (by decide) (by decide) (Nat.le_of_ble_eq_true rfl) (by decide) (by decide) rfl (c_through hρ hT hk hkl hh hc hM (pa := (p : Int)) (w := ((i / 41 : Nat) : Int)) (l := ((i % 41 : Nat) : Int)) (by omega) (by omega) (by omega)) ?_
          rintro r123 ρ123 f123 g123 ⟨bb, rfl, s123_0, ks, kg, hb1, hb2⟩
          obtain rfl := s123_0.symm
          have row : f123 139 = f 139 := funext fun j => ks 139 j (by omega)
          have hI3 := hI.kl ks.kl kg
          have hD3 : DoneL T c (T 117 h) q f123 k i := fun k' i' a1 a2 a3 a4 => (hD k' i' a1 a2 a3 (fun z => by rw [← row]; exact a4 z)).ks ks
          have hA3 := hA.ks ks
          refine V_bf (tgt := 132) dX12_layLeast_126 rfl (fun b126 => ?_) (fun b126 => ?_)
          · have t9 : f123 104 76 = (tq T c (T 117 h) k p i).1 ∧ f123 104 74 = (tq T c (T 117 h) k p i).2.1 ∧ f123 104 75 = (tq T c (T 117 h) k p i).2.2.1 := hb2 b126
            obtain ⟨t1, t2, t3⟩ := t9
            have hle : (tq T c (T 117 h) k p i).2.2.1 ≠ 0 := hb1.mp b126
            have hrow : f123 140 (2501 * (k + 1) + nsp T c (T 117 h) k p i) = (vst T c (T 117 h) q (nLa T - (k + 1)) (k + 1) (nsp T c (T 117 h) k p i)).1 := (hD3 (k + 1) (nsp T c (T 117 h) k p i) tr.2.2.2 (by omega) (by omega) (fun z => by rw [row]; exact hcl k i hi (by omega) e1 p (by omega) (by omega) (by unfold alw; omega) hle)).1
            refine V_al0n dX12_layLeast_132 ?_
            refine V_getR kk104 (by decide) fl_X12_121 (fx_104_85 hρ) dX12_layLeast_133 ?_
            refine V_il3n dX12_layLeast_136 ?_
            refine V_iconst dX12_layLeast_137 ?_
            refine V_iadd dX12_layLeast_138 ?_
            refine V_al0n dX12_layLeast_139 ?_
            refine V_getI kk104 (by decide) fl_X12_417 t2 dX12_layLeast_140 ?_
            refine V_al0n dX12_layLeast_143 ?_
            refine V_getI kk104 (by decide) fl_X12_420 t3 dX12_layLeast_144 ?_
            refine V_callS (as := [_, _, _]) ml_X12_517 sm_X12_spot dX12_layLeast_147 rfl rfl (by decide) (by decide) (Nat.le_of_ble_eq_true rfl) (by decide) (by decide) rfl (c_spot) ?_
            refine pq4 ?_
            refine V_iald (k := 2501 * (k + 1) + nsp T c (T 117 h) k p i) kk140 (by decide) (by unfold nsp; omega) (by omega) (by first | decide | assumption | omega) hrow dX12_layLeast_150 ?_
            refine V_is6 dX12_layLeast_151 (by decide) rfl ?_
            refine V_il6 dX12_layLeast_153 ?_
            refine V_ldc (a := 99999) kc_X12_192 rfl dX12_layLeast_155 ?_
            refine V_icmp_eq (tgt := 221) dX12_layLeast_157 rfl (by first | assumption | (unfold ri at *; omega)) (by first | assumption | (unfold ri at *; omega)) (fun b157 => ?_) (fun b157 => ?_)
            · refine V_inc5 dX12_layLeast_221 (by decide) rfl ?_
              refine V_goto (tgt := 71) dX12_layLeast_224 rfl ?_
              exact V_weak (by repeat (first | exact wk_n | refine wk_c (Or.inr rfl) ?_ | refine wk_c (Or.inl rfl) ?_)) (w_llP hρ hk hh hc hq hkl hi hX (p + 1) (by omega) x hx f123 g123 hI3 hD3 hA3 (fun z => by rw [← hR1, if_neg (fun cc => cc.2.2.1 b157)]))
            · refine V_al0n dX12_layLeast_160 ?_
              refine V_getI kk104 (by decide) fl_X12_441 t1 dX12_layLeast_161 ?_
              refine V_il6 dX12_layLeast_164 ?_
              refine V_iadd dX12_layLeast_166 ?_
              refine V_al0n dX12_layLeast_167 ?_
              refine V_getR kk104 (by decide) fl_X12_121 (fx_104_85 hρ) dX12_layLeast_168 ?_
              refine V_sipush dX12_layLeast_171 rfl ?_
              refine V_il3n dX12_layLeast_174 ?_
              refine V_imul dX12_layLeast_175 ?_
              refine V_il4 dX12_layLeast_176 ?_
              refine V_iadd dX12_layLeast_178 ?_
              refine V_iald (k := 2501 * k + i) kk140 (by decide) (by first | rfl | omega) (by omega) (by first | decide | assumption | omega) hA3.1 dX12_layLeast_179 ?_
              refine V_icmp_lt (tgt := 186) dX12_layLeast_180 rfl (by first | assumption | (unfold ri at *; omega)) (by first | assumption | (unfold ri at *; omega)) (fun b180 => ?_) (fun b180 => ?_)
              · refine V_al0n dX12_layLeast_186 ?_
                refine V_getR kk104 (by decide) fl_X12_121 (fx_104_85 hρ) dX12_layLeast_187 ?_
                refine V_sipush dX12_layLeast_190 rfl ?_
                refine V_il3n dX12_layLeast_193 ?_
                refine V_imul dX12_layLeast_194 ?_
                refine V_il4 dX12_layLeast_195 ?_
                refine V_iadd dX12_layLeast_197 ?_
                refine V_al0n dX12_layLeast_198 ?_
                refine V_getI kk104 (by decide) fl_X12_441 t1 dX12_layLeast_199 ?_
                refine V_il6 dX12_layLeast_202 ?_
                refine V_iadd dX12_layLeast_204 ?_
                refine V_iast (k := 2501 * k + i) kk140 (by decide) (by first | rfl | omega) (by omega) (by first | decide | assumption | omega) dX12_layLeast_205 ?_
                refine V_al0n dX12_layLeast_206 ?_
                refine V_getR kk104 (by decide) fl_X12_124 (fx_104_86 hρ) dX12_layLeast_207 ?_
                refine V_sipush dX12_layLeast_210 rfl ?_
                refine V_il3n dX12_layLeast_213 ?_
                refine V_imul dX12_layLeast_214 ?_
                refine V_il4 dX12_layLeast_215 ?_
                refine V_iadd dX12_layLeast_217 ?_
                refine V_il5 dX12_layLeast_218 ?_
                refine V_iast (k := 2501 * k + i) kk141 (by decide) (by first | rfl | omega) (by omega) (by first | decide | assumption | omega) dX12_layLeast_220 ?_
                refine V_inc5 dX12_layLeast_221 (by decide) rfl ?_
                refine V_goto (tgt := 71) dX12_layLeast_224 rfl ?_
                exact V_weak (by repeat (first | exact wk_n | refine wk_c (Or.inr rfl) ?_ | refine wk_c (Or.inl rfl) ?_)) (w_llP hρ hk hh hc hq hkl hi hX (p + 1) (by omega) ((tq T c (T 117 h) k p i).1 + (vst T c (T 117 h) q (nLa T - (k + 1)) (k + 1) (nsp T c (T 117 h) k p i)).1, (p : Int)) (by simp only; omega) _ _ (hI3.kl (KL.u1 (KL.u0 KL.rf)) KG.rf) (fun k' i' a1 a2 a3 a4 => by
                  have := hD3 k' i' a1 a2 a3 (fun z => by rw [← a4 z]; exact ((u2_o (by omega)).trans (u2_o (by omega))).symm)
                  exact ⟨(u2_o (by omega)).trans ((u2_o (by omega)).trans this.1), fun z z2 => (u2_o (by omega)).trans ((u2_o (by omega)).trans (this.2 z z2))⟩) ⟨u2_n (by omega) u2_s, fun _ _ => u2_s⟩ (fun z => by rw [← hR1, if_pos ⟨by omega, hle, b157, b180⟩]))
              · refine V_goto (tgt := 221) dX12_layLeast_183 rfl ?_
                refine V_inc5 dX12_layLeast_221 (by decide) rfl ?_
                refine V_goto (tgt := 71) dX12_layLeast_224 rfl ?_
                exact V_weak (by repeat (first | exact wk_n | refine wk_c (Or.inr rfl) ?_ | refine wk_c (Or.inl rfl) ?_)) (w_llP hρ hk hh hc hq hkl hi hX (p + 1) (by omega) x hx f123 g123 hI3 hD3 hA3 (fun z => by rw [← hR1, if_neg (fun cc => b180 cc.2.2.2)]))
          · refine V_goto (tgt := 221) dX12_layLeast_129 rfl ?_
            refine V_inc5 dX12_layLeast_221 (by decide) rfl ?_
            refine V_goto (tgt := 71) dX12_layLeast_224 rfl ?_
            exact V_weak (by repeat (first | exact wk_n | refine wk_c (Or.inr rfl) ?_ | refine wk_c (Or.inl rfl) ?_)) (w_llP hρ hk hh hc hq hkl hi hX (p + 1) (by omega) x hx f123 g123 hI3 hD3 hA3 (fun z => by rw [← hR1, if_neg (fun cc => absurd (hb1.mpr cc.2.1) (by rw [b126]; exact Bool.false_ne_true))]))
        · refine V_il5 dX12_layLeast_102 ?_
          refine V_il2n dX12_layLeast_104 ?_
          refine V_icmp_ne (tgt := 221) dX12_layLeast_105 rfl (by first | assumption | (unfold ri at *; omega)) (by first | assumption | (unfold ri at *; omega)) (fun b105 => ?_) (fun b105 => ?_)
          · refine V_inc5 dX12_layLeast_221 (by decide) rfl ?_
            refine V_goto (tgt := 71) dX12_layLeast_224 rfl ?_
            exact V_weak (by repeat (first | exact wk_n | refine wk_c (Or.inr rfl) ?_ | refine wk_c (Or.inl rfl) ?_)) (w_llP hρ hk hh hc hq hkl hi hX (p + 1) (by omega) x hx f g hI hD hA (fun z => by rw [← hR1, if_neg (fun cc => cc.1 (by omega))]))
          · refine V_al0n dX12_layLeast_108 ?_
            refine V_il3n dX12_layLeast_109 ?_
            refine V_il1n dX12_layLeast_110 ?_
            refine V_il5 dX12_layLeast_111 ?_
            refine V_il4 dX12_layLeast_113 ?_
            refine V_bipush dX12_layLeast_115 rfl ?_
            refine V_idiv dX12_layLeast_117 (iz_ne (by unfold ri; omega) (by omega)) (iz_div (by omega) (by omega) (by unfold ri; omega) (by unfold ri; omega)) ?_
            refine V_il4 dX12_layLeast_118 ?_
            refine V_bipush dX12_layLeast_120 rfl ?_
            refine V_irem dX12_layLeast_122 (iz_ne (by unfold ri; omega) (by omega)) (iz_rem (by omega) (by omega) (by unfold ri; omega) (by unfold ri; omega)) ?_
            refine V_callV (as := [_, _, _, _, _]) ml_X12_521 im_X12_through se_X12_through kk104 (by decide) (by decide) dX12_layLeast_123 rfl rfl (by decide) (by decide) (Nat.le_of_ble_eq_true rfl) (by decide) (by decide) rfl (c_through hρ hT hk hkl hh hc hM (pa := (p : Int)) (w := ((i / 41 : Nat) : Int)) (l := ((i % 41 : Nat) : Int)) (by omega) (by omega) (by omega)) ?_
            rintro r123 ρ123 f123 g123 ⟨bb, rfl, s123_0, ks, kg, hb1, hb2⟩
            obtain rfl := s123_0.symm
            have row : f123 139 = f 139 := funext fun j => ks 139 j (by omega)
            have hI3 := hI.kl ks.kl kg
            have hD3 : DoneL T c (T 117 h) q f123 k i := fun k' i' a1 a2 a3 a4 => (hD k' i' a1 a2 a3 (fun z => by rw [← row]; exact a4 z)).ks ks
            have hA3 := hA.ks ks
            refine V_bf (tgt := 132) dX12_layLeast_126 rfl (fun b126 => ?_) (fun b126 => ?_)
            · have t9 : f123 104 76 = (tq T c (T 117 h) k p i).1 ∧ f123 104 74 = (tq T c (T 117 h) k p i).2.1 ∧ f123 104 75 = (tq T c (T 117 h) k p i).2.2.1 := hb2 b126
              obtain ⟨t1, t2, t3⟩ := t9
              have hle : (tq T c (T 117 h) k p i).2.2.1 ≠ 0 := hb1.mp b126
              have hrow : f123 140 (2501 * (k + 1) + nsp T c (T 117 h) k p i) = (vst T c (T 117 h) q (nLa T - (k + 1)) (k + 1) (nsp T c (T 117 h) k p i)).1 := (hD3 (k + 1) (nsp T c (T 117 h) k p i) tr.2.2.2 (by omega) (by omega) (fun z => by rw [row]; exact hcl k i hi (by omega) e1 p (by omega) (by omega) (by unfold alw; omega) hle)).1
              refine V_al0n dX12_layLeast_132 ?_
              refine V_getR kk104 (by decide) fl_X12_121 (fx_104_85 hρ) dX12_layLeast_133 ?_
              refine V_il3n dX12_layLeast_136 ?_
              refine V_iconst dX12_layLeast_137 ?_
              refine V_iadd dX12_layLeast_138 ?_
              refine V_al0n dX12_layLeast_139 ?_
              refine V_getI kk104 (by decide) fl_X12_417 t2 dX12_layLeast_140 ?_
              refine V_al0n dX12_layLeast_143 ?_
              refine V_getI kk104 (by decide) fl_X12_420 t3 dX12_layLeast_144 ?_
              refine V_callS (as := [_, _, _]) ml_X12_517 sm_X12_spot dX12_layLeast_147 rfl rfl (by decide) (by decide) (Nat.le_of_ble_eq_true rfl) (by decide) (by decide) rfl (c_spot) ?_
              refine pq4 ?_
              refine V_iald (k := 2501 * (k + 1) + nsp T c (T 117 h) k p i) kk140 (by decide) (by unfold nsp; omega) (by omega) (by first | decide | assumption | omega) hrow dX12_layLeast_150 ?_
              refine V_is6 dX12_layLeast_151 (by decide) rfl ?_
              refine V_il6 dX12_layLeast_153 ?_
              refine V_ldc (a := 99999) kc_X12_192 rfl dX12_layLeast_155 ?_
              refine V_icmp_eq (tgt := 221) dX12_layLeast_157 rfl (by first | assumption | (unfold ri at *; omega)) (by first | assumption | (unfold ri at *; omega)) (fun b157 => ?_) (fun b157 => ?_)
              · refine V_inc5 dX12_layLeast_221 (by decide) rfl ?_
                refine V_goto (tgt := 71) dX12_layLeast_224 rfl ?_
                exact V_weak (by repeat (first | exact wk_n | refine wk_c (Or.inr rfl) ?_ | refine wk_c (Or.inl rfl) ?_)) (w_llP hρ hk hh hc hq hkl hi hX (p + 1) (by omega) x hx f123 g123 hI3 hD3 hA3 (fun z => by rw [← hR1, if_neg (fun cc => cc.2.2.1 b157)]))
              · refine V_al0n dX12_layLeast_160 ?_
                refine V_getI kk104 (by decide) fl_X12_441 t1 dX12_layLeast_161 ?_
                refine V_il6 dX12_layLeast_164 ?_
                refine V_iadd dX12_layLeast_166 ?_
                refine V_al0n dX12_layLeast_167 ?_
                refine V_getR kk104 (by decide) fl_X12_121 (fx_104_85 hρ) dX12_layLeast_168 ?_
                refine V_sipush dX12_layLeast_171 rfl ?_
                refine V_il3n dX12_layLeast_174 ?_
                refine V_imul dX12_layLeast_175 ?_
                refine V_il4 dX12_layLeast_176 ?_
                refine V_iadd dX12_layLeast_178 ?_
                refine V_iald (k := 2501 * k + i) kk140 (by decide) (by first | rfl | omega) (by omega) (by first | decide | assumption | omega) hA3.1 dX12_layLeast_179 ?_
                refine V_icmp_lt (tgt := 186) dX12_layLeast_180 rfl (by first | assumption | (unfold ri at *; omega)) (by first | assumption | (unfold ri at *; omega)) (fun b180 => ?_) (fun b180 => ?_)
                · refine V_al0n dX12_layLeast_186 ?_
                  refine V_getR kk104 (by decide) fl_X12_121 (fx_104_85 hρ) dX12_layLeast_187 ?_
                  refine V_sipush dX12_layLeast_190 rfl ?_
                  refine V_il3n dX12_layLeast_193 ?_
                  refine V_imul dX12_layLeast_194 ?_
                  refine V_il4 dX12_layLeast_195 ?_
                  refine V_iadd dX12_layLeast_197 ?_
                  refine V_al0n dX12_layLeast_198 ?_
                  refine V_getI kk104 (by decide) fl_X12_441 t1 dX12_layLeast_199 ?_
                  refine V_il6 dX12_layLeast_202 ?_
                  refine V_iadd dX12_layLeast_204 ?_
                  refine V_iast (k := 2501 * k + i) kk140 (by decide) (by first | rfl | omega) (by omega) (by first | decide | assumption | omega) dX12_layLeast_205 ?_
                  refine V_al0n dX12_layLeast_206 ?_
                  refine V_getR kk104 (by decide) fl_X12_124 (fx_104_86 hρ) dX12_layLeast_207 ?_
                  refine V_sipush dX12_layLeast_210 rfl ?_
                  refine V_il3n dX12_layLeast_213 ?_
                  refine V_imul dX12_layLeast_214 ?_
                  refine V_il4 dX12_layLeast_215 ?_
                  refine V_iadd dX12_layLeast_217 ?_
                  refine V_il5 dX12_layLeast_218 ?_
                  refine V_iast (k := 2501 * k + i) kk141 (by decide) (by first | rfl | omega) (by omega) (by first | decide | assumption | omega) dX12_layLeast_220 ?_
                  refine V_inc5 dX12_layLeast_221 (by decide) rfl ?_
                  refine V_goto (tgt := 71) dX12_layLeast_224 rfl ?_
                  exact V_weak (by repeat (first | exact wk_n | refine wk_c (Or.inr rfl) ?_ | refine wk_c (Or.inl rfl) ?_)) (w_llP hρ hk hh hc hq hkl hi hX (p + 1) (by omega) ((tq T c (T 117 h) k p i).1 + (vst T c (T 117 h) q (nLa T - (k + 1)) (k + 1) (nsp T c (T 117 h) k p i)).1, (p : Int)) (by simp only; omega) _ _ (hI3.kl (KL.u1 (KL.u0 KL.rf)) KG.rf) (fun k' i' a1 a2 a3 a4 => by
                    have := hD3 k' i' a1 a2 a3 (fun z => by rw [← a4 z]; exact ((u2_o (by omega)).trans (u2_o (by omega))).symm)
                    exact ⟨(u2_o (by omega)).trans ((u2_o (by omega)).trans this.1), fun z z2 => (u2_o (by omega)).trans ((u2_o (by omega)).trans (this.2 z z2))⟩) ⟨u2_n (by omega) u2_s, fun _ _ => u2_s⟩ (fun z => by rw [← hR1, if_pos ⟨by omega, hle, b157, b180⟩]))
                · refine V_goto (tgt := 221) dX12_layLeast_183 rfl ?_
                  refine V_inc5 dX12_layLeast_221 (by decide) rfl ?_
                  refine V_goto (tgt := 71) dX12_layLeast_224 rfl ?_
                  exact V_weak (by repeat (first | exact wk_n | refine wk_c (Or.inr rfl) ?_ | refine wk_c (Or.inl rfl) ?_)) (w_llP hρ hk hh hc hq hkl hi hX (p + 1) (by omega) x hx f123 g123 hI3 hD3 hA3 (fun z => by rw [← hR1, if_neg (fun cc => b180 cc.2.2.2)]))
            · refine V_goto (tgt := 221) dX12_layLeast_129 rfl ?_
              refine V_inc5 dX12_layLeast_221 (by decide) rfl ?_
              refine V_goto (tgt := 71) dX12_layLeast_224 rfl ?_
              exact V_weak (by repeat (first | exact wk_n | refine wk_c (Or.inr rfl) ?_ | refine wk_c (Or.inl rfl) ?_)) (w_llP hρ hk hh hc hq hkl hi hX (p + 1) (by omega) x hx f123 g123 hI3 hD3 hA3 (fun z => by rw [← hR1, if_neg (fun cc => absurd (hb1.mpr cc.2.1) (by rw [b126]; exact Bool.false_ne_true))]))
termination_by 10 - p
theorem w_llI {T : TT} {Q : QT} {ρ : RT} {f0 : IT} {g0 : JT} (hρ : Fx ρ) (hk : TOK T) {h : Nat} (hh : h < nHo T) {c : CC} (hc : CR c) {q : Int} (hq : 0 ≤ q ∧ q ≤ 9) {k : Nat} (hkl : k < nLa T)
    (hX : ∀ (f : IT) (g : JT), LI T c (T 117 h) q f0 f g0 g → DoneL T c (T 117 h) q f k 2501 → V_X12_layLeast Q 38 [.ref 104, .int (iz (h : Int)), .int (iz q), .int (iz ((k : Int) + -1)), .null, .null, .null] [] ρ f g)
    (i : Nat) (hi : i ≤ 2501) (f : IT) (g : JT) (hI : LI T c (T 117 h) q f0 f g0 g) (hD : DoneL T c (T 117 h) q f k i) :
    V_X12_layLeast Q 45 [.ref 104, .int (iz (h : Int)), .int (iz q), .int (iz (k : Int)), .int (iz (i : Int)), .null, .null] [] ρ f g := by
  have h6 := hk.la
  refine V_il4 dX12_layLeast_45 ?_
  refine V_sipush dX12_layLeast_47 rfl ?_
  refine V_icmp_ge (tgt := 233) dX12_layLeast_50 rfl (by first | assumption | (unfold ri at *; omega)) (by first | assumption | (unfold ri at *; omega)) (fun b50 => ?_) (fun b50 => ?_)
  · have ei : i = 2501 := by omega
    subst ei
    refine V_inc3 dX12_layLeast_233 (by decide) rfl ?_
    refine V_goto (tgt := 38) dX12_layLeast_236 rfl ?_
    exact V_weak (by repeat (first | exact wk_n | refine wk_c (Or.inr rfl) ?_ | refine wk_c (Or.inl rfl) ?_)) (hX f g hI hD)
  · refine V_al0n dX12_layLeast_53 ?_
    refine V_getR kk104 (by decide) fl_X12_121 (fx_104_85 hρ) dX12_layLeast_54 ?_
    refine V_sipush dX12_layLeast_57 rfl ?_
    refine V_il3n dX12_layLeast_60 ?_
    refine V_imul dX12_layLeast_61 ?_
    refine V_il4 dX12_layLeast_62 ?_
    refine V_iadd dX12_layLeast_64 ?_
    refine V_ldc (a := 99999) kc_X12_192 rfl dX12_layLeast_65 ?_
    refine V_iast (k := 2501 * k + i) kk140 (by decide) (by first | rfl | omega) (by omega) (by first | decide | assumption | omega) dX12_layLeast_67 ?_
    refine V_iconst dX12_layLeast_68 ?_
    refine V_is5 dX12_layLeast_69 (by decide) rfl ?_
    refine w_llP hρ hk hh hc hq hkl (by omega) (fun f1 g1 a1 a2 => ?_) 1 (by omega) (99999, 0) (by simp) (u2 f 140 (2501 * k + i) 99999) g (hI.kl (KL.u0 KL.rf) KG.rf) (fun k' i' a1 a2 a3 a4 => by
      have := hD k' i' a1 a2 a3 (fun z => by rw [← a4 z]; exact (u2_o (by omega)).symm)
      exact ⟨(u2_o (by omega)).trans this.1, fun z z2 => (u2_o (by omega)).trans (this.2 z z2)⟩) ⟨u2_s, fun z _ => absurd rfl z⟩ (fun _ => by rw [show nLa T - k = (nLa T - (k + 1)) + 1 by omega, vst])
    refine V_inc4 dX12_layLeast_227 (by decide) rfl ?_
    refine V_goto (tgt := 45) dX12_layLeast_230 rfl ?_
    exact w_llI hρ hk hh hc hq hkl hX (i + 1) (by omega) f1 g1 a1 a2
termination_by 2501 - i
theorem w_llK {T : TT} {Q : QT} {ρ : RT} {f0 : IT} {g0 : JT} (hρ : Fx ρ) (hk : TOK T) {h : Nat} (hh : h < nHo T) {c : CC} (hc : CR c) {q : Int} (hq : 0 ≤ q ∧ q ≤ 9)
    (hQ : ∀ (f : IT) (g : JT), LI T c (T 117 h) q f0 f g0 g → (∀ k i, i < 2501 → k ≤ nLa T → (k < nLa T → f 139 (2501 * k + i) = 1) → At2 f (2501 * k + i) (vst T c (T 117 h) q (nLa T - k) k i)) → Q none ρ f g)
    (k : Nat) (hkl : k ≤ nLa T) (f : IT) (g : JT) (hI : LI T c (T 117 h) q f0 f g0 g) (hD : DoneL T c (T 117 h) q f k 0) (hD0 : k = 0 → ∀ k i, i < 2501 → k ≤ nLa T → (k < nLa T → f 139 (2501 * k + i) = 1) → At2 f (2501 * k + i) (vst T c (T 117 h) q (nLa T - k) k i)) (hDk : DoneL T c (T 117 h) q f (k - 1) (if k = 0 then 2501 else 0)) :
    V_X12_layLeast Q 38 [.ref 104, .int (iz (h : Int)), .int (iz q), .int (iz ((k : Int) - 1)), .null, .null, .null] [] ρ f g := by
  have h6 := hk.la
  by_cases e : k = 0
  · subst e
    refine V_il3n dX12_layLeast_38 ?_
    refine V_if_lt (tgt := 239) dX12_layLeast_39 rfl (by first | assumption | (unfold ri at *; omega)) (fun b39 => ?_) (fun b39 => ?_)
    · exact V_return rfl (hQ f g hI (hD0 rfl)) dX12_layLeast_239
    · exfalso; omega
  · obtain ⟨j, rfl⟩ : ∃ j, k = j + 1 := ⟨k - 1, by omega⟩
    have ej : (((j + 1 : Nat) : Int) - 1) = (j : Int) := by omega
    rw [ej]
    rw [if_neg e, Nat.add_sub_cancel] at hDk
    refine V_il3n dX12_layLeast_38 ?_
    refine V_if_lt (tgt := 239) dX12_layLeast_39 rfl (by first | assumption | (unfold ri at *; omega)) (fun b39 => ?_) (fun b39 => ?_)
    · exfalso; omega
    · refine V_iconst dX12_layLeast_42 ?_
      refine V_is4 dX12_layLeast_43 (by decide) rfl ?_
      refine w_llI hρ hk hh hc hq (k := j) (by omega) (fun f1 g1 a1 a2 => ?_) 0 (by omega) f g hI hDk
      have := w_llK hρ hk hh hc hq hQ j (by omega) f1 g1 a1 (fun k' i' b1 b2 b3 b4 => a2 k' i' b1 b2 (by omega) b4) (fun e0 k' i' b1 b2 b4 => a2 k' i' b1 b2 (by omega) b4) (fun k' i' b1 b2 b3 b4 => a2 k' i' b1 b2 (by split at b3 <;> omega) b4)
      exact this
termination_by k

