abbrev FT : Type := Int × Int × Int × Int × Int
def fitS (w l : Int) (x : FT) : FT := (x.1 + 1, if x.2.1 < 0 then w else x.2.1, w, if x.2.2.2.1 < 0 ∨ l < x.2.2.2.1 then l else x.2.2.2.1, if x.2.2.2.2 < l then l else x.2.2.2.2)
def ftL (so : Int → Int → Bool) (w : Int) : Nat → Nat → FT → FT
  | 0, _, x => x
  | n + 1, l, x => ftL so w n (l + 1) (if so w (l : Int) = true then fitS w (l : Int) x else x)
def ftW (so : Int → Int → Bool) : Nat → Nat → FT → FT
  | 0, _, x => x
  | n + 1, w, x => ftW so n (w + 1) (ftL so (w : Int) 40 1 x)
def FH (x : FT) (f : IT) : Prop := f 144 0 = x.1 ∧ f 144 1 = x.2.1 ∧ f 144 2 = x.2.2.1 ∧ f 144 3 = x.2.2.2.1 ∧ f 144 4 = x.2.2.2.2
def FRg (x : FT) : Prop := (-2 ≤ x.2.1 ∧ x.2.1 ≤ 60) ∧ (-2 ≤ x.2.2.2.1 ∧ x.2.2.2.1 ≤ 60) ∧ (-2 ≤ x.2.2.2.2 ∧ x.2.2.2.2 ≤ 60)
def K44 (f f' : IT) : Prop := ∀ a k, ¬ (a = 104 ∧ (k = 66 ∨ 70 ≤ k ∧ k ≤ 77)) → a ≠ 144 → f' a k = f a k
theorem K44.rf {f : IT} : K44 f f := fun _ _ _ _ => rfl
theorem KW.k44 {f f' f'' : IT} (h : K44 f f') (h' : KW f' f'') : K44 f f'' := fun a k q r => (h' a k q).trans (h a k q r)
theorem K44.km {f f' : IT} (h : K44 f f') : KM f f' := fun a k hs => h a k (fun q => by
  obtain ⟨rfl, q⟩ := q
  unfold scM at hs
  simp at hs
  omega) (fun q => by subst q; cases hs)
theorem K44.u {f f' : IT} {k : Nat} {x : Int} (h : K44 f f') : K44 f (u2 f' 144 k x) := fun a j q r => (u2_o (by omega)).trans (h a j q r)
section FITS
variable {T : TT} {Q : QT} {ρ : RT} {f0 : IT} {g0 : JT} {sk : Int} {ra : Bool} {m : Nat} {C : Nat → Bool} {X : FT}
theorem w_ft42 (hρ : Fx ρ) (hT0 : MT T f0) (hk : TOK T) (hN : NTK T f0) (hs : f0 104 67 = sk) (hsk : 0 ≤ sk ∧ sk ≤ 30) (hr : f0 104 68 = bz ra) (hm : m < nMe T) (hC : ∀ j, j < kB f0 → f0 143 j = bz (C j)) {w : Nat} (hw : 1 ≤ w ∧ w ≤ 60)
    (hX : ∀ (f : IT) (g : JT), K44 f0 f → KG g0 g → FH X f → FRg X → V_X12_layFits Q 170 [.ref 104, .int (iz (m : Int)), .int (iz (w : Int)), .null] [] ρ f g)
    (l : Nat) (hl : 1 ≤ l ∧ l ≤ 41) (x : FT) (f : IT) (g : JT) (hf : K44 f0 f) (hg : KG g0 g) (hx : FH x f) (hxr : FRg x) (hR : X = ftL (soB T ra sk m (f0 142) C (kB f0)) (w : Int) (41 - l) l x) :
    V_X12_layFits Q 42 [.ref 104, .int (iz (m : Int)), .int (iz (w : Int)), .int (iz (l : Int))] [] ρ f g := by
  by_cases e : l = 41
  · subst e
    simp only [Nat.sub_self, ftL] at hR
    subst hR
    refine V_il3n dX12_layFits_42 ?_
    refine V_bipush dX12_layFits_43 rfl ?_
    refine V_icmp_gt (tgt := 170) dX12_layFits_45 rfl (by first | assumption | (unfold ri at *; omega)) (by first | assumption | (unfold ri at *; omega)) (fun b45 => ?_) (fun b45 => ?_)
    · exact V_weak (by repeat (first | exact wk_n | refine wk_c (Or.inr rfl) ?_ | refine wk_c (Or.inl rfl) ?_)) (hX f g hf hg hx hxr)
    · exfalso; omega
  · rw [show 41 - l = (41 - (l + 1)) + 1 by omega, ftL] at hR
    have hN1 := hN.km hf.km
    have ekB : kB f = kB f0 := by unfold kB; rw [hf 104 91 (by omega) (by omega), hf 104 90 (by omega) (by omega)]
    have e142 : f 142 = f0 142 := funext (fun k => hf 142 k (by omega) (by omega))
    have hcs := c_isSo (g := g) hρ (hT0.km hf.km) hk hN1 ((hf 104 67 (by omega) (by omega)).trans hs) hsk ((hf 104 68 (by omega) (by omega)).trans hr) hm (w := (w : Int)) (l := (l : Int)) (by omega) (by omega) (C := C) (fun j hj => (hf 143 j (by omega) (by omega)).trans (hC j (by omega)))
    rw [e142, ekB] at hcs
    obtain ⟨hx0, hx1, hx2, hx3, hx4⟩ := hx
    refine V_il3n dX12_layFits_42 ?_
    refine V_bipush dX12_layFits_43 rfl ?_
    refine V_icmp_gt (tgt := 170) dX12_layFits_45 rfl (by first | assumption | (unfold ri at *; omega)) (by first | assumption | (unfold ri at *; omega)) (fun b45 => ?_) (fun b45 => ?_)
    · exfalso; omega
    · refine V_al0n dX12_layFits_48 ?_
      refine V_il1n dX12_layFits_49 ?_
      refine V_il2n dX12_layFits_50 ?_
      refine V_il3n dX12_layFits_51 ?_
      refine V_callV (as := [_, _, _]) ml_X12_567 im_X12_isSo se_X12_isSo kk104 (by decide) (by decide) dX12_layFits_52 rfl rfl (by decide) (by decide) (Nat.le_of_ble_eq_true rfl) (by decide) (by decide) rfl (hcs) ?_
      rintro r52 ρ52 f52 g52 ⟨rfl, s52_0, kw52, kg52⟩
      obtain rfl := s52_0.symm
      have k1 : K44 f0 f52 := kw52.k44 hf
      have kg1 : KG g0 g52 := hg.tr kg52
      have y0 : f52 144 0 = x.1 := (kw52 144 0 (by omega)).trans hx0
      have y1 : f52 144 1 = x.2.1 := (kw52 144 1 (by omega)).trans hx1
      have y2 : f52 144 2 = x.2.2.1 := (kw52 144 2 (by omega)).trans hx2
      have y3 : f52 144 3 = x.2.2.2.1 := (kw52 144 3 (by omega)).trans hx3
      have y4 : f52 144 4 = x.2.2.2.2 := (kw52 144 4 (by omega)).trans hx4
      unfold FRg at hxr
      refine V_bf (tgt := 61) dX12_layFits_55 rfl (fun b55 => ?_) (fun b55 => ?_)
      · rw [if_pos b55] at hR
        refine V_al0n dX12_layFits_61 ?_
        refine V_getR kk104 (by decide) fl_X12_136 (fx_104_94 hρ) dX12_layFits_62 ?_
        refine V_iconst dX12_layFits_65 ?_
        refine V_dup2 dX12_layFits_66 rfl rfl ?_
        refine V_iald (k := 0) kk144 (by decide) (by first | rfl | omega) (by omega) (by first | decide | assumption | omega) y0 dX12_layFits_67 ?_
        refine V_iconst dX12_layFits_68 ?_
        refine V_iadd dX12_layFits_69 ?_
        refine V_iast (k := 0) kk144 (by decide) (by first | rfl | omega) (by omega) (by first | decide | assumption | omega) dX12_layFits_70 ?_
        refine V_al0n dX12_layFits_71 ?_
        refine V_getR kk104 (by decide) fl_X12_136 (fx_104_94 hρ) dX12_layFits_72 ?_
        refine V_iconst dX12_layFits_75 ?_
        refine V_al0n dX12_layFits_76 ?_
        refine V_getR kk104 (by decide) fl_X12_136 (fx_104_94 hρ) dX12_layFits_77 ?_
        refine V_iconst dX12_layFits_80 ?_
        refine V_iald (k := 1) kk144 (by decide) (by first | rfl | omega) (by omega) (by first | decide | assumption | omega) (u2_n (by decide) y1) dX12_layFits_81 ?_
        refine V_if_ge (tgt := 89) dX12_layFits_82 rfl (by first | assumption | (unfold ri at *; omega)) (fun b82 => ?_) (fun b82 => ?_)
        · refine V_al0n dX12_layFits_89 ?_
          refine V_getR kk104 (by decide) fl_X12_136 (fx_104_94 hρ) dX12_layFits_90 ?_
          refine V_iconst dX12_layFits_93 ?_
          refine V_iald (k := 1) kk144 (by decide) (by first | rfl | omega) (by omega) (by first | decide | assumption | omega) (u2_n (by decide) y1) dX12_layFits_94 ?_
          refine V_iast (k := 1) kk144 (by decide) (by first | rfl | omega) (by omega) (by first | decide | assumption | omega) dX12_layFits_95 ?_
          refine V_al0n dX12_layFits_96 ?_
          refine V_getR kk104 (by decide) fl_X12_136 (fx_104_94 hρ) dX12_layFits_97 ?_
          refine V_iconst dX12_layFits_100 ?_
          refine V_il2n dX12_layFits_101 ?_
          refine V_iast (k := 2) kk144 (by decide) (by first | rfl | omega) (by omega) (by first | decide | assumption | omega) dX12_layFits_102 ?_
          refine V_al0n dX12_layFits_103 ?_
          refine V_getR kk104 (by decide) fl_X12_136 (fx_104_94 hρ) dX12_layFits_104 ?_
          refine V_iconst dX12_layFits_107 ?_
          refine V_al0n dX12_layFits_108 ?_
          refine V_getR kk104 (by decide) fl_X12_136 (fx_104_94 hρ) dX12_layFits_109 ?_
          refine V_iconst dX12_layFits_112 ?_
          refine V_iald (k := 3) kk144 (by decide) (by first | rfl | omega) (by omega) (by first | decide | assumption | omega) (u2_n (by decide) (u2_n (by decide) (u2_n (by decide) y3))) dX12_layFits_113 ?_
          refine V_if_lt (tgt := 127) dX12_layFits_114 rfl (by first | assumption | (unfold ri at *; omega)) (fun b114 => ?_) (fun b114 => ?_)
          · refine V_il3n dX12_layFits_127 ?_
            refine V_goto (tgt := 137) dX12_layFits_128 rfl ?_
            refine V_iast (k := 3) kk144 (by decide) (by first | rfl | omega) (by omega) (by first | decide | assumption | omega) dX12_layFits_137 ?_
            refine V_al0n dX12_layFits_138 ?_
            refine V_getR kk104 (by decide) fl_X12_136 (fx_104_94 hρ) dX12_layFits_139 ?_
            refine V_iconst dX12_layFits_142 ?_
            refine V_il3n dX12_layFits_143 ?_
            refine V_al0n dX12_layFits_144 ?_
            refine V_getR kk104 (by decide) fl_X12_136 (fx_104_94 hρ) dX12_layFits_145 ?_
            refine V_iconst dX12_layFits_148 ?_
            refine V_iald (k := 4) kk144 (by decide) (by first | rfl | omega) (by omega) (by first | decide | assumption | omega) (u2_n (by decide) (u2_n (by decide) (u2_n (by decide) (u2_n (by decide) y4)))) dX12_layFits_149 ?_
            refine V_icmp_le (tgt := 157) dX12_layFits_150 rfl (by first | assumption | (unfold ri at *; omega)) (by first | assumption | (unfold ri at *; omega)) (fun b150 => ?_) (fun b150 => ?_)
            · refine V_al0n dX12_layFits_157 ?_
              refine V_getR kk104 (by decide) fl_X12_136 (fx_104_94 hρ) dX12_layFits_158 ?_
              refine V_iconst dX12_layFits_161 ?_
              refine V_iald (k := 4) kk144 (by decide) (by first | rfl | omega) (by omega) (by first | decide | assumption | omega) (u2_n (by decide) (u2_n (by decide) (u2_n (by decide) (u2_n (by decide) y4)))) dX12_layFits_162 ?_
              refine V_iast (k := 4) kk144 (by decide) (by first | rfl | omega) (by omega) (by first | decide | assumption | omega) dX12_layFits_163 ?_
              refine V_inc3 dX12_layFits_164 (by decide) rfl ?_
              refine V_goto (tgt := 42) dX12_layFits_167 rfl ?_
              exact w_ft42 hρ hT0 hk hN hs hsk hr hm hC hw hX (l + 1) (by omega) (fitS (w : Int) (l : Int) x) _ g52 (K44.u (K44.u (K44.u (K44.u (K44.u k1))))) kg1 ⟨by simp [u2, fitS], by simp only [u2, fitS]; simp <;> first | omega | (intros; omega) | (split <;> omega), by simp [u2, fitS], by simp only [u2, fitS]; simp <;> first | omega | (intros; omega) | (split <;> omega), by simp only [u2, fitS]; simp <;> first | omega | (intros; omega) | (split <;> omega)⟩ (by unfold FRg; simp only [fitS]; refine ⟨?_, ?_, ?_⟩ <;> split <;> omega) hR
            · refine V_il3n dX12_layFits_153 ?_
              refine V_goto (tgt := 163) dX12_layFits_154 rfl ?_
              refine V_iast (k := 4) kk144 (by decide) (by first | rfl | omega) (by omega) (by first | decide | assumption | omega) dX12_layFits_163 ?_
              refine V_inc3 dX12_layFits_164 (by decide) rfl ?_
              refine V_goto (tgt := 42) dX12_layFits_167 rfl ?_
              exact w_ft42 hρ hT0 hk hN hs hsk hr hm hC hw hX (l + 1) (by omega) (fitS (w : Int) (l : Int) x) _ g52 (K44.u (K44.u (K44.u (K44.u (K44.u k1))))) kg1 ⟨by simp [u2, fitS], by simp only [u2, fitS]; simp <;> first | omega | (intros; omega) | (split <;> omega), by simp [u2, fitS], by simp only [u2, fitS]; simp <;> first | omega | (intros; omega) | (split <;> omega), by simp only [u2, fitS]; simp <;> first | omega | (intros; omega) | (split <;> omega)⟩ (by unfold FRg; simp only [fitS]; refine ⟨?_, ?_, ?_⟩ <;> split <;> omega) hR
          · refine V_il3n dX12_layFits_117 ?_
            refine V_al0n dX12_layFits_118 ?_
            refine V_getR kk104 (by decide) fl_X12_136 (fx_104_94 hρ) dX12_layFits_119 ?_
            refine V_iconst dX12_layFits_122 ?_
            refine V_iald (k := 3) kk144 (by decide) (by first | rfl | omega) (by omega) (by first | decide | assumption | omega) (u2_n (by decide) (u2_n (by decide) (u2_n (by decide) y3))) dX12_layFits_123 ?_
            refine V_icmp_ge (tgt := 131) dX12_layFits_124 rfl (by first | assumption | (unfold ri at *; omega)) (by first | assumption | (unfold ri at *; omega)) (fun b124 => ?_) (fun b124 => ?_)
            · refine V_al0n dX12_layFits_131 ?_
              refine V_getR kk104 (by decide) fl_X12_136 (fx_104_94 hρ) dX12_layFits_132 ?_
              refine V_iconst dX12_layFits_135 ?_
              refine V_iald (k := 3) kk144 (by decide) (by first | rfl | omega) (by omega) (by first | decide | assumption | omega) (u2_n (by decide) (u2_n (by decide) (u2_n (by decide) y3))) dX12_layFits_136 ?_
              refine V_iast (k := 3) kk144 (by decide) (by first | rfl | omega) (by omega) (by first | decide | assumption | omega) dX12_layFits_137 ?_
              refine V_al0n dX12_layFits_138 ?_
              refine V_getR kk104 (by decide) fl_X12_136 (fx_104_94 hρ) dX12_layFits_139 ?_
              refine V_iconst dX12_layFits_142 ?_
              refine V_il3n dX12_layFits_143 ?_
              refine V_al0n dX12_layFits_144 ?_
              refine V_getR kk104 (by decide) fl_X12_136 (fx_104_94 hρ) dX12_layFits_145 ?_
              refine V_iconst dX12_layFits_148 ?_
              refine V_iald (k := 4) kk144 (by decide) (by first | rfl | omega) (by omega) (by first | decide | assumption | omega) (u2_n (by decide) (u2_n (by decide) (u2_n (by decide) (u2_n (by decide) y4)))) dX12_layFits_149 ?_
              refine V_icmp_le (tgt := 157) dX12_layFits_150 rfl (by first | assumption | (unfold ri at *; omega)) (by first | assumption | (unfold ri at *; omega)) (fun b150 => ?_) (fun b150 => ?_)
              · refine V_al0n dX12_layFits_157 ?_
                refine V_getR kk104 (by decide) fl_X12_136 (fx_104_94 hρ) dX12_layFits_158 ?_
                refine V_iconst dX12_layFits_161 ?_
                refine V_iald (k := 4) kk144 (by decide) (by first | rfl | omega) (by omega) (by first | decide | assumption | omega) (u2_n (by decide) (u2_n (by decide) (u2_n (by decide) (u2_n (by decide) y4)))) dX12_layFits_162 ?_
                refine V_iast (k := 4) kk144 (by decide) (by first | rfl | omega) (by omega) (by first | decide | assumption | omega) dX12_layFits_163 ?_
                refine V_inc3 dX12_layFits_164 (by decide) rfl ?_
                refine V_goto (tgt := 42) dX12_layFits_167 rfl ?_
                exact w_ft42 hρ hT0 hk hN hs hsk hr hm hC hw hX (l + 1) (by omega) (fitS (w : Int) (l : Int) x) _ g52 (K44.u (K44.u (K44.u (K44.u (K44.u k1))))) kg1 ⟨by simp [u2, fitS], by simp only [u2, fitS]; simp <;> first | omega | (intros; omega) | (split <;> omega), by simp [u2, fitS], by simp only [u2, fitS]; simp <;> first | omega | (intros; omega) | (split <;> omega), by simp only [u2, fitS]; simp <;> first | omega | (intros; omega) | (split <;> omega)⟩ (by unfold FRg; simp only [fitS]; refine ⟨?_, ?_, ?_⟩ <;> split <;> omega) hR
              · refine V_il3n dX12_layFits_153 ?_
                refine V_goto (tgt := 163) dX12_layFits_154 rfl ?_
                refine V_iast (k := 4) kk144 (by decide) (by first | rfl | omega) (by omega) (by first | decide | assumption | omega) dX12_layFits_163 ?_
                refine V_inc3 dX12_layFits_164 (by decide) rfl ?_
                refine V_goto (tgt := 42) dX12_layFits_167 rfl ?_
                exact w_ft42 hρ hT0 hk hN hs hsk hr hm hC hw hX (l + 1) (by omega) (fitS (w : Int) (l : Int) x) _ g52 (K44.u (K44.u (K44.u (K44.u (K44.u k1))))) kg1 ⟨by simp [u2, fitS], by simp only [u2, fitS]; simp <;> first | omega | (intros; omega) | (split <;> omega), by simp [u2, fitS], by simp only [u2, fitS]; simp <;> first | omega | (intros; omega) | (split <;> omega), by simp only [u2, fitS]; simp <;> first | omega | (intros; omega) | (split <;> omega)⟩ (by unfold FRg; simp only [fitS]; refine ⟨?_, ?_, ?_⟩ <;> split <;> omega) hR
            · refine V_il3n dX12_layFits_127 ?_
              refine V_goto (tgt := 137) dX12_layFits_128 rfl ?_
              refine V_iast (k := 3) kk144 (by decide) (by first | rfl | omega) (by omega) (by first | decide | assumption | omega) dX12_layFits_137 ?_
              refine V_al0n dX12_layFits_138 ?_
              refine V_getR kk104 (by decide) fl_X12_136 (fx_104_94 hρ) dX12_layFits_139 ?_
              refine V_iconst dX12_layFits_142 ?_
              refine V_il3n dX12_layFits_143 ?_
              refine V_al0n dX12_layFits_144 ?_
              refine V_getR kk104 (by decide) fl_X12_136 (fx_104_94 hρ) dX12_layFits_145 ?_
              refine V_iconst dX12_layFits_148 ?_
              refine V_iald (k := 4) kk144 (by decide) (by first | rfl | omega) (by omega) (by first | decide | assumption | omega) (u2_n (by decide) (u2_n (by decide) (u2_n (by decide) (u2_n (by decide) y4)))) dX12_layFits_149 ?_
              refine V_icmp_le (tgt := 157) dX12_layFits_150 rfl (by first | assumption | (unfold ri at *; omega)) (by first | assumption | (unfold ri at *; omega)) (fun b150 => ?_) (fun b150 => ?_)
              · refine V_al0n dX12_layFits_157 ?_
                refine V_getR kk104 (by decide) fl_X12_136 (fx_104_94 hρ) dX12_layFits_158 ?_
                refine V_iconst dX12_layFits_161 ?_
                refine V_iald (k := 4) kk144 (by decide) (by first | rfl | omega) (by omega) (by first | decide | assumption | omega) (u2_n (by decide) (u2_n (by decide) (u2_n (by decide) (u2_n (by decide) y4)))) dX12_layFits_162 ?_
                refine V_iast (k := 4) kk144 (by decide) (by first | rfl | omega) (by omega) (by first | decide | assumption | omega) dX12_layFits_163 ?_
                refine V_inc3 dX12_layFits_164 (by decide) rfl ?_
                refine V_goto (tgt := 42) dX12_layFits_167 rfl ?_
                exact w_ft42 hρ hT0 hk hN hs hsk hr hm hC hw hX (l + 1) (by omega) (fitS (w : Int) (l : Int) x) _ g52 (K44.u (K44.u (K44.u (K44.u (K44.u k1))))) kg1 ⟨by simp [u2, fitS], by simp only [u2, fitS]; simp <;> first | omega | (intros; omega) | (split <;> omega), by simp [u2, fitS], by simp only [u2, fitS]; simp <;> first | omega | (intros; omega) | (split <;> omega), by simp only [u2, fitS]; simp <;> first | omega | (intros; omega) | (split <;> omega)⟩ (by unfold FRg; simp only [fitS]; refine ⟨?_, ?_, ?_⟩ <;> split <;> omega) hR
              · refine V_il3n dX12_layFits_153 ?_
                refine V_goto (tgt := 163) dX12_layFits_154 rfl ?_
                refine V_iast (k := 4) kk144 (by decide) (by first | rfl | omega) (by omega) (by first | decide | assumption | omega) dX12_layFits_163 ?_
                refine V_inc3 dX12_layFits_164 (by decide) rfl ?_
                refine V_goto (tgt := 42) dX12_layFits_167 rfl ?_
                exact w_ft42 hρ hT0 hk hN hs hsk hr hm hC hw hX (l + 1) (by omega) (fitS (w : Int) (l : Int) x) _ g52 (K44.u (K44.u (K44.u (K44.u (K44.u k1))))) kg1 ⟨by simp [u2, fitS], by simp only [u2, fitS]; simp <;> first | omega | (intros; omega) | (split <;> omega), by simp [u2, fitS], by simp only [u2, fitS]; simp <;> first | omega | (intros; omega) | (split <;> omega), by simp only [u2, fitS]; simp <;> first | omega | (intros; omega) | (split <;> omega)⟩ (by unfold FRg; simp only [fitS]; refine ⟨?_, ?_, ?_⟩ <;> split <;> omega) hR
        · refine V_il2n dX12_layFits_85 ?_
          refine V_goto (tgt := 95) dX12_layFits_86 rfl ?_
          refine V_iast (k := 1) kk144 (by decide) (by first | rfl | omega) (by omega) (by first | decide | assumption | omega) dX12_layFits_95 ?_
          refine V_al0n dX12_layFits_96 ?_
          refine V_getR kk104 (by decide) fl_X12_136 (fx_104_94 hρ) dX12_layFits_97 ?_
          refine V_iconst dX12_layFits_100 ?_
          refine V_il2n dX12_layFits_101 ?_
          refine V_iast (k := 2) kk144 (by decide) (by first | rfl | omega) (by omega) (by first | decide | assumption | omega) dX12_layFits_102 ?_
          refine V_al0n dX12_layFits_103 ?_
          refine V_getR kk104 (by decide) fl_X12_136 (fx_104_94 hρ) dX12_layFits_104 ?_
          refine V_iconst dX12_layFits_107 ?_
          refine V_al0n dX12_layFits_108 ?_
          refine V_getR kk104 (by decide) fl_X12_136 (fx_104_94 hρ) dX12_layFits_109 ?_
          refine V_iconst dX12_layFits_112 ?_
          refine V_iald (k := 3) kk144 (by decide) (by first | rfl | omega) (by omega) (by first | decide | assumption | omega) (u2_n (by decide) (u2_n (by decide) (u2_n (by decide) y3))) dX12_layFits_113 ?_
          refine V_if_lt (tgt := 127) dX12_layFits_114 rfl (by first | assumption | (unfold ri at *; omega)) (fun b114 => ?_) (fun b114 => ?_)
          · refine V_il3n dX12_layFits_127 ?_
            refine V_goto (tgt := 137) dX12_layFits_128 rfl ?_
            refine V_iast (k := 3) kk144 (by decide) (by first | rfl | omega) (by omega) (by first | decide | assumption | omega) dX12_layFits_137 ?_
            refine V_al0n dX12_layFits_138 ?_
            refine V_getR kk104 (by decide) fl_X12_136 (fx_104_94 hρ) dX12_layFits_139 ?_
            refine V_iconst dX12_layFits_142 ?_
            refine V_il3n dX12_layFits_143 ?_
            refine V_al0n dX12_layFits_144 ?_
            refine V_getR kk104 (by decide) fl_X12_136 (fx_104_94 hρ) dX12_layFits_145 ?_
            refine V_iconst dX12_layFits_148 ?_
            refine V_iald (k := 4) kk144 (by decide) (by first | rfl | omega) (by omega) (by first | decide | assumption | omega) (u2_n (by decide) (u2_n (by decide) (u2_n (by decide) (u2_n (by decide) y4)))) dX12_layFits_149 ?_
            refine V_icmp_le (tgt := 157) dX12_layFits_150 rfl (by first | assumption | (unfold ri at *; omega)) (by first | assumption | (unfold ri at *; omega)) (fun b150 => ?_) (fun b150 => ?_)
            · refine V_al0n dX12_layFits_157 ?_
              refine V_getR kk104 (by decide) fl_X12_136 (fx_104_94 hρ) dX12_layFits_158 ?_
              refine V_iconst dX12_layFits_161 ?_
              refine V_iald (k := 4) kk144 (by decide) (by first | rfl | omega) (by omega) (by first | decide | assumption | omega) (u2_n (by decide) (u2_n (by decide) (u2_n (by decide) (u2_n (by decide) y4)))) dX12_layFits_162 ?_
              refine V_iast (k := 4) kk144 (by decide) (by first | rfl | omega) (by omega) (by first | decide | assumption | omega) dX12_layFits_163 ?_
              refine V_inc3 dX12_layFits_164 (by decide) rfl ?_
              refine V_goto (tgt := 42) dX12_layFits_167 rfl ?_
              exact w_ft42 hρ hT0 hk hN hs hsk hr hm hC hw hX (l + 1) (by omega) (fitS (w : Int) (l : Int) x) _ g52 (K44.u (K44.u (K44.u (K44.u (K44.u k1))))) kg1 ⟨by simp [u2, fitS], by simp only [u2, fitS]; simp <;> first | omega | (intros; omega) | (split <;> omega), by simp [u2, fitS], by simp only [u2, fitS]; simp <;> first | omega | (intros; omega) | (split <;> omega), by simp only [u2, fitS]; simp <;> first | omega | (intros; omega) | (split <;> omega)⟩ (by unfold FRg; simp only [fitS]; refine ⟨?_, ?_, ?_⟩ <;> split <;> omega) hR
            · refine V_il3n dX12_layFits_153 ?_
              refine V_goto (tgt := 163) dX12_layFits_154 rfl ?_
              refine V_iast (k := 4) kk144 (by decide) (by first | rfl | omega) (by omega) (by first | decide | assumption | omega) dX12_layFits_163 ?_
              refine V_inc3 dX12_layFits_164 (by decide) rfl ?_
              refine V_goto (tgt := 42) dX12_layFits_167 rfl ?_
              exact w_ft42 hρ hT0 hk hN hs hsk hr hm hC hw hX (l + 1) (by omega) (fitS (w : Int) (l : Int) x) _ g52 (K44.u (K44.u (K44.u (K44.u (K44.u k1))))) kg1 ⟨by simp [u2, fitS], by simp only [u2, fitS]; simp <;> first | omega | (intros; omega) | (split <;> omega), by simp [u2, fitS], by simp only [u2, fitS]; simp <;> first | omega | (intros; omega) | (split <;> omega), by simp only [u2, fitS]; simp <;> first | omega | (intros; omega) | (split <;> omega)⟩ (by unfold FRg; simp only [fitS]; refine ⟨?_, ?_, ?_⟩ <;> split <;> omega) hR
          · refine V_il3n dX12_layFits_117 ?_
            refine V_al0n dX12_layFits_118 ?_
            refine V_getR kk104 (by decide) fl_X12_136 (fx_104_94 hρ) dX12_layFits_119 ?_
            refine V_iconst dX12_layFits_122 ?_
            refine V_iald (k := 3) kk144 (by decide) (by first | rfl | omega) (by omega) (by first | decide | assumption | omega) (u2_n (by decide) (u2_n (by decide) (u2_n (by decide) y3))) dX12_layFits_123 ?_
            refine V_icmp_ge (tgt := 131) dX12_layFits_124 rfl (by first | assumption | (unfold ri at *; omega)) (by first | assumption | (unfold ri at *; omega)) (fun b124 => ?_) (fun b124 => ?_)
            · refine V_al0n dX12_layFits_131 ?_
              refine V_getR kk104 (by decide) fl_X12_136 (fx_104_94 hρ) dX12_layFits_132 ?_
              refine V_iconst dX12_layFits_135 ?_
              refine V_iald (k := 3) kk144 (by decide) (by first | rfl | omega) (by omega) (by first | decide | assumption | omega) (u2_n (by decide) (u2_n (by decide) (u2_n (by decide) y3))) dX12_layFits_136 ?_
              refine V_iast (k := 3) kk144 (by decide) (by first | rfl | omega) (by omega) (by first | decide | assumption | omega) dX12_layFits_137 ?_
              refine V_al0n dX12_layFits_138 ?_
              refine V_getR kk104 (by decide) fl_X12_136 (fx_104_94 hρ) dX12_layFits_139 ?_
              refine V_iconst dX12_layFits_142 ?_
              refine V_il3n dX12_layFits_143 ?_
              refine V_al0n dX12_layFits_144 ?_
              refine V_getR kk104 (by decide) fl_X12_136 (fx_104_94 hρ) dX12_layFits_145 ?_
              refine V_iconst dX12_layFits_148 ?_
              refine V_iald (k := 4) kk144 (by decide) (by first | rfl | omega) (by omega) (by first | decide | assumption | omega) (u2_n (by decide) (u2_n (by decide) (u2_n (by decide) (u2_n (by decide) y4)))) dX12_layFits_149 ?_
              refine V_icmp_le (tgt := 157) dX12_layFits_150 rfl (by first | assumption | (unfold ri at *; omega)) (by first | assumption | (unfold ri at *; omega)) (fun b150 => ?_) (fun b150 => ?_)
              · refine V_al0n dX12_layFits_157 ?_
                refine V_getR kk104 (by decide) fl_X12_136 (fx_104_94 hρ) dX12_layFits_158 ?_
                refine V_iconst dX12_layFits_161 ?_
                refine V_iald (k := 4) kk144 (by decide) (by first | rfl | omega) (by omega) (by first | decide | assumption | omega) (u2_n (by decide) (u2_n (by decide) (u2_n (by decide) (u2_n (by decide) y4)))) dX12_layFits_162 ?_
                refine V_iast (k := 4) kk144 (by decide) (by first | rfl | omega) (by omega) (by first | decide | assumption | omega) dX12_layFits_163 ?_
                refine V_inc3 dX12_layFits_164 (by decide) rfl ?_
                refine V_goto (tgt := 42) dX12_layFits_167 rfl ?_
                exact w_ft42 hρ hT0 hk hN hs hsk hr hm hC hw hX (l + 1) (by omega) (fitS (w : Int) (l : Int) x) _ g52 (K44.u (K44.u (K44.u (K44.u (K44.u k1))))) kg1 ⟨by simp [u2, fitS], by simp only [u2, fitS]; simp <;> first | omega | (intros; omega) | (split <;> omega), by simp [u2, fitS], by simp only [u2, fitS]; simp <;> first | omega | (intros; omega) | (split <;> omega), by simp only [u2, fitS]; simp <;> first | omega | (intros; omega) | (split <;> omega)⟩ (by unfold FRg; simp only [fitS]; refine ⟨?_, ?_, ?_⟩ <;> split <;> omega) hR
              · refine V_il3n dX12_layFits_153 ?_
                refine V_goto (tgt := 163) dX12_layFits_154 rfl ?_
                refine V_iast (k := 4) kk144 (by decide) (by first | rfl | omega) (by omega) (by first | decide | assumption | omega) dX12_layFits_163 ?_
                refine V_inc3 dX12_layFits_164 (by decide) rfl ?_
                refine V_goto (tgt := 42) dX12_layFits_167 rfl ?_
                exact w_ft42 hρ hT0 hk hN hs hsk hr hm hC hw hX (l + 1) (by omega) (fitS (w : Int) (l : Int) x) _ g52 (K44.u (K44.u (K44.u (K44.u (K44.u k1))))) kg1 ⟨by simp [u2, fitS], by simp only [u2, fitS]; simp <;> first | omega | (intros; omega) | (split <;> omega), by simp [u2, fitS], by simp only [u2, fitS]; simp <;> first | omega | (intros; omega) | (split <;> omega), by simp only [u2, fitS]; simp <;> first | omega | (intros; omega) | (split <;> omega)⟩ (by unfold FRg; simp only [fitS]; refine ⟨?_, ?_, ?_⟩ <;> split <;> omega) hR
            · refine V_il3n dX12_layFits_127 ?_
              refine V_goto (tgt := 137) dX12_layFits_128 rfl ?_
              refine V_iast (k := 3) kk144 (by decide) (by first | rfl | omega) (by omega) (by first | decide | assumption | omega) dX12_layFits_137 ?_
              refine V_al0n dX12_layFits_138 ?_
              refine V_getR kk104 (by decide) fl_X12_136 (fx_104_94 hρ) dX12_layFits_139 ?_
              refine V_iconst dX12_layFits_142 ?_
              refine V_il3n dX12_layFits_143 ?_
              refine V_al0n dX12_layFits_144 ?_
              refine V_getR kk104 (by decide) fl_X12_136 (fx_104_94 hρ) dX12_layFits_145 ?_
              refine V_iconst dX12_layFits_148 ?_
              refine V_iald (k := 4) kk144 (by decide) (by first | rfl | omega) (by omega) (by first | decide | assumption | omega) (u2_n (by decide) (u2_n (by decide) (u2_n (by decide) (u2_n (by decide) y4)))) dX12_layFits_149 ?_
              refine V_icmp_le (tgt := 157) dX12_layFits_150 rfl (by first | assumption | (unfold ri at *; omega)) (by first | assumption | (unfold ri at *; omega)) (fun b150 => ?_) (fun b150 => ?_)
              · refine V_al0n dX12_layFits_157 ?_
                refine V_getR kk104 (by decide) fl_X12_136 (fx_104_94 hρ) dX12_layFits_158 ?_
                refine V_iconst dX12_layFits_161 ?_
                refine V_iald (k := 4) kk144 (by decide) (by first | rfl | omega) (by omega) (by first | decide | assumption | omega) (u2_n (by decide) (u2_n (by decide) (u2_n (by decide) (u2_n (by decide) y4)))) dX12_layFits_162 ?_
                refine V_iast (k := 4) kk144 (by decide) (by first | rfl | omega) (by omega) (by first | decide | assumption | omega) dX12_layFits_163 ?_
                refine V_inc3 dX12_layFits_164 (by decide) rfl ?_
                refine V_goto (tgt := 42) dX12_layFits_167 rfl ?_
                exact w_ft42 hρ hT0 hk hN hs hsk hr hm hC hw hX (l + 1) (by omega) (fitS (w : Int) (l : Int) x) _ g52 (K44.u (K44.u (K44.u (K44.u (K44.u k1))))) kg1 ⟨by simp [u2, fitS], by simp only [u2, fitS]; simp <;> first | omega | (intros; omega) | (split <;> omega), by simp [u2, fitS], by simp only [u2, fitS]; simp <;> first | omega | (intros; omega) | (split <;> omega), by simp only [u2, fitS]; simp <;> first | omega | (intros; omega) | (split <;> omega)⟩ (by unfold FRg; simp only [fitS]; refine ⟨?_, ?_, ?_⟩ <;> split <;> omega) hR
              · refine V_il3n dX12_layFits_153 ?_
                refine V_goto (tgt := 163) dX12_layFits_154 rfl ?_
                refine V_iast (k := 4) kk144 (by decide) (by first | rfl | omega) (by omega) (by first | decide | assumption | omega) dX12_layFits_163 ?_
                refine V_inc3 dX12_layFits_164 (by decide) rfl ?_
                refine V_goto (tgt := 42) dX12_layFits_167 rfl ?_
                exact w_ft42 hρ hT0 hk hN hs hsk hr hm hC hw hX (l + 1) (by omega) (fitS (w : Int) (l : Int) x) _ g52 (K44.u (K44.u (K44.u (K44.u (K44.u k1))))) kg1 ⟨by simp [u2, fitS], by simp only [u2, fitS]; simp <;> first | omega | (intros; omega) | (split <;> omega), by simp [u2, fitS], by simp only [u2, fitS]; simp <;> first | omega | (intros; omega) | (split <;> omega), by simp only [u2, fitS]; simp <;> first | omega | (intros; omega) | (split <;> omega)⟩ (by unfold FRg; simp only [fitS]; refine ⟨?_, ?_, ?_⟩ <;> split <;> omega) hR
      · refine V_goto (tgt := 164) dX12_layFits_58 rfl ?_
        refine V_inc3 dX12_layFits_164 (by decide) rfl ?_
        refine V_goto (tgt := 42) dX12_layFits_167 rfl ?_
        rw [if_neg (by rw [b55]; exact Bool.false_ne_true)] at hR
        exact w_ft42 hρ hT0 hk hN hs hsk hr hm hC hw hX (l + 1) (by omega) x f52 g52 k1 kg1 ⟨y0, y1, y2, y3, y4⟩ hxr hR
termination_by 41 - l
theorem w_ft34 (hρ : Fx ρ) (hT0 : MT T f0) (hk : TOK T) (hN : NTK T f0) (hs : f0 104 67 = sk) (hsk : 0 ≤ sk ∧ sk ≤ 30) (hr : f0 104 68 = bz ra) (hm : m < nMe T) (hC : ∀ j, j < kB f0 → f0 143 j = bz (C j))
    (hQ : ∀ (f : IT) (g : JT), K44 f0 f → KG g0 g → FH X f → Q none ρ f g)
    (w : Nat) (hw : 1 ≤ w ∧ w ≤ 61) (x : FT) (f : IT) (g : JT) (hf : K44 f0 f) (hg : KG g0 g) (hx : FH x f) (hxr : FRg x) (hR : X = ftW (soB T ra sk m (f0 142) C (kB f0)) (61 - w) w x) :
    V_X12_layFits Q 34 [.ref 104, .int (iz (m : Int)), .int (iz (w : Int)), .null] [] ρ f g := by
  by_cases e : w = 61
  · subst e
    simp only [Nat.sub_self, ftW] at hR
    subst hR
    refine V_il2n dX12_layFits_34 ?_
    refine V_bipush dX12_layFits_35 rfl ?_
    refine V_icmp_gt (tgt := 176) dX12_layFits_37 rfl (by first | assumption | (unfold ri at *; omega)) (by first | assumption | (unfold ri at *; omega)) (fun b37 => ?_) (fun b37 => ?_)
    · exact V_return rfl (hQ f g hf hg hx) dX12_layFits_176
    · exfalso; omega
  · rw [show 61 - w = (61 - (w + 1)) + 1 by omega, ftW] at hR
    have hY : ∀ (f : IT) (g : JT), K44 f0 f → KG g0 g → FH (ftL (soB T ra sk m (f0 142) C (kB f0)) (w : Int) 40 1 x) f → FRg (ftL (soB T ra sk m (f0 142) C (kB f0)) (w : Int) 40 1 x) → V_X12_layFits Q 170 [.ref 104, .int (iz (m : Int)), .int (iz (w : Int)), .null] [] ρ f g := by
      intro f1 g1 k1 k2 k3 k4
      refine V_inc2 dX12_layFits_170 (by decide) rfl ?_
      refine V_goto (tgt := 34) dX12_layFits_173 rfl ?_
      exact w_ft34 hρ hT0 hk hN hs hsk hr hm hC hQ (w + 1) (by omega) _ f1 g1 k1 k2 k3 k4 hR
    refine V_il2n dX12_layFits_34 ?_
    refine V_bipush dX12_layFits_35 rfl ?_
    refine V_icmp_gt (tgt := 176) dX12_layFits_37 rfl (by first | assumption | (unfold ri at *; omega)) (by first | assumption | (unfold ri at *; omega)) (fun b37 => ?_) (fun b37 => ?_)
    · exfalso; omega
    · refine V_iconst dX12_layFits_40 ?_
      refine V_is3n dX12_layFits_41 (by decide) rfl ?_
      exact w_ft42 hρ hT0 hk hN hs hsk hr hm hC (by omega) hY 1 (by omega) x f g hf hg hx hxr rfl
termination_by 61 - w
theorem w_ft13 (hX : ∀ (f : IT), (∀ a k, a ≠ 144 → f a k = f0 a k) → f 144 0 = 0 → (∀ j, 1 ≤ j → j < 5 → f 144 j = -2) → V_X12_layFits Q 32 [.ref 104, .int (iz (m : Int)), .null, .null] [] ρ f g0) (hρ : Fx ρ) (i : Nat) (hi : 1 ≤ i ∧ i ≤ 5) (f : IT) (hf : ∀ a k, a ≠ 144 → f a k = f0 a k) (h0 : f 144 0 = 0) (h1 : ∀ j, 1 ≤ j → j < i → f 144 j = -2) :
    V_X12_layFits Q 13 [.ref 104, .int (iz (m : Int)), .int (iz (i : Int)), .null] [] ρ f g0 := by
  refine V_il2n dX12_layFits_13 ?_
  refine V_iconst dX12_layFits_14 ?_
  refine V_icmp_ge (tgt := 32) dX12_layFits_15 rfl (by first | assumption | (unfold ri at *; omega)) (by first | assumption | (unfold ri at *; omega)) (fun b15 => ?_) (fun b15 => ?_)
  · exact V_weak (by repeat (first | exact wk_n | refine wk_c (Or.inr rfl) ?_ | refine wk_c (Or.inl rfl) ?_)) (hX f hf h0 (fun j j1 j2 => h1 j j1 (by omega)))
  · refine V_al0n dX12_layFits_18 ?_
    refine V_getR kk104 (by decide) fl_X12_136 (fx_104_94 hρ) dX12_layFits_19 ?_
    refine V_il2n dX12_layFits_22 ?_
    refine V_bipush dX12_layFits_23 rfl ?_
    refine V_iast (k := i) kk144 (by decide) (by first | rfl | omega) (by omega) (by first | decide | assumption | omega) dX12_layFits_25 ?_
    refine V_inc2 dX12_layFits_26 (by decide) rfl ?_
    refine V_goto (tgt := 13) dX12_layFits_29 rfl ?_
    exact w_ft13 hX hρ (i + 1) (by omega) _ (fun a k ha => (u2_o (by omega)).trans (hf a k ha)) (u2_n (by omega) h0) (fun j j1 j2 => by by_cases e : j = i; (rw [e]; exact u2_s); exact u2_n (by omega) (h1 j j1 (by omega)))
termination_by 5 - i
end FITS
/-- how many winds and legs fit, and their ends -/
def fitT (T : TT) (ra : Bool) (sk : Int) (m : Nat) (r : Nat → Int) (K : Nat) : FT := ftW (soB T ra sk m r (cRun r K (fun _ => true)) K) 60 1 (0, -2, -2, -2, -2)
theorem c_layFits {T : TT} {ρ : RT} {f : IT} {g : JT} (hρ : Fx ρ) (hT : MT T f) (hk : TOK T) (hN : NTK T f) {sk : Int} {ra : Bool} (hs : f 104 67 = sk) (hsk : 0 ≤ sk ∧ sk ≤ 30) (hr : f 104 68 = bz ra) {m : Nat} (hm : m < nMe T) :
    C_X12_layFits [.ref 104, .int (iz (m : Int))] ρ f g (fun r ρ' f' g' => r = none ∧ ρ' = ρ ∧ KM f f' ∧ KM g g' ∧ FH (fitT T ra sk m (f 142) (kB f)) f') := by
  refine Ct.ofV (by decide) rfl (Nat.le_of_ble_eq_true rfl) ?_
  refine V_al0n dX12_layFits_0 ?_
  refine V_callV (as := []) ml_X12_564 im_X12_layCounts se_X12_layCounts kk104 (by decide) (by decide) dX12_layFits_1 rfl rfl (by decide) (by decide) (Nat.le_of_ble_eq_true rfl) (by decide) (by decide) rfl (c_layCounts hρ hk hN) ?_
  rintro r1 ρ1 f1 g1 ⟨rfl, s1_0, k43, hc, s1_1⟩
  obtain rfl := s1_0.symm
  obtain rfl := s1_1.symm
  refine V_al0n dX12_layFits_4 ?_
  refine V_getR kk104 (by decide) fl_X12_136 (fx_104_94 hρ) dX12_layFits_5 ?_
  refine V_iconst dX12_layFits_8 ?_
  refine V_iconst dX12_layFits_9 ?_
  refine V_iast (k := 0) kk144 (by decide) (by first | rfl | omega) (by omega) (by first | decide | assumption | omega) dX12_layFits_10 ?_
  refine V_iconst dX12_layFits_11 ?_
  refine V_is2n dX12_layFits_12 (by decide) rfl ?_
  refine w_ft13 (f0 := f1) (fun f2 k2 z0 z1 => ?_) hρ 1 (by omega) _ (fun a k ha => u2_o (by omega)) u2_s (fun j j1 j2 => by omega)
  have e142 : f1 142 = f 142 := funext (fun k => k43 142 k (by omega))
  have ekB : kB f1 = kB f := by unfold kB; rw [k43 104 91 (by omega), k43 104 90 (by omega)]
  refine V_iconst dX12_layFits_32 ?_
  refine V_is2n dX12_layFits_33 (by decide) rfl ?_
  exact w_ft34 (f0 := f1) hρ (hT.km k43.km) hk (hN.km k43.km) ((k43 104 67 (by omega)).trans hs) hsk ((k43 104 68 (by omega)).trans hr) hm (C := cRun (f 142) (kB f) (fun _ => true)) (fun j hj => hc j (by omega)) (fun f' g' a1 a2 a3 => ⟨rfl, rfl, k43.km.tr a1.km, a2.km, a3⟩) 1 (by omega) (0, -2, -2, -2, -2) f2 g (fun a k q r => k2 a k r) KG.rf ⟨z0, z1 1 (by omega) (by omega), z1 2 (by omega) (by omega), z1 3 (by omega) (by omega), z1 4 (by omega) (by omega)⟩ (by unfold FRg; simp only; omega) (by rw [e142, ekB]; rfl)
def fTell (x : FT) (w : Int) : Int := if w = 0 then x.1 else if w = 1 then x.2.1 else if w = 2 then x.2.2.1 else if w = 3 then x.2.2.2.1 else x.2.2.2.2
def aFits (T : TT) (ra : Bool) (sk m w : Int) (f : IT) : Int := if (okM T m && zin w 0 4) = true then fTell (fitT T ra sk m.toNat (f 142) (kB f)) w else -1
theorem c_mfits {T : TT} {ρ : RT} {f : IT} {g : JT} (hρ : Fx ρ) (hT : MT T f) (hk : TOK T) (hN : NTK T f) {sk : Int} {ra : Bool} (hs : f 104 67 = sk) (hsk : 0 ≤ sk ∧ sk ≤ 30) (hr : f 104 68 = bz ra) {m w : Int} (rm : ri m) (rw_ : ri w) :
    C_X12_fits [.ref 104, .int (iz m), .int (iz w)] ρ f g (fun r ρ' f' g' => r = some (.int (iz (aFits T ra sk m w f))) ∧ ρ' = ρ ∧ KM f f' ∧ KM g g') := by
  have k0 : KM f (u2 f 104 2 0) := KM.u2 rfl KM.rf
  have hT1 : MT T (u2 f 104 2 0) := hT.km k0
  have h5 := hk.me
  refine Ct.ofV (by decide) rfl (Nat.le_of_ble_eq_true rfl) ?_
  refine V_al0n dX12_fits_0 ?_
  refine V_iconst dX12_fits_1 ?_
  refine V_putI kk104 (by decide) fl_X12_154 rfl dX12_fits_2 ?_
  refine V_al0n dX12_fits_5 ?_
  refine V_il1n dX12_fits_6 ?_
  refine V_callV (as := [_]) ml_X12_462 im_X12_isMan se_X12_isMan kk104 (by decide) (by decide) dX12_fits_7 rfl rfl (by decide) (by decide) (Nat.le_of_ble_eq_true rfl) (by decide) (by decide) rfl (c_isMan rm ((hT1 104 13 rfl).trans h5.1) (by unfold ri; omega)) ?_
  refine pq4 ?_
  refine V_bt (tgt := 22) dX12_fits_10 rfl (fun b10 => ?_) (fun b10 => ?_)
  · refine V_iconst dX12_fits_22 ?_
    exact V_ireturn rfl ⟨by unfold aFits okM; simp only [*]; simp, rfl, k0, KM.rf⟩ dX12_fits_23
  · refine V_il2n dX12_fits_13 ?_
    refine V_iconst dX12_fits_14 ?_
    refine V_iconst dX12_fits_15 ?_
    refine V_callS (as := [_, _, _]) ml_X12_199 sm_X12_isIn dX12_fits_16 rfl rfl (by decide) (by decide) (Nat.le_of_ble_eq_true rfl) (by decide) (by decide) rfl (c_isIn rw_ (by unfold ri; omega) (by unfold ri; omega)) ?_
    refine pq4 ?_
    refine V_bf (tgt := 24) dX12_fits_19 rfl (fun b19 => ?_) (fun b19 => ?_)
    · have c1 := b10
      have c3 := b19
      unfold zin at c3
      simp only [decide_eq_true_eq] at c1 c3
      obtain ⟨mN, rfl⟩ : ∃ n : Nat, m = n := ⟨m.toNat, by omega⟩
      have ea : aFits T ra sk (mN : Int) w f = fTell (fitT T ra sk mN (f 142) (kB f)) w := by unfold aFits okM; simp only [b10, b19]; simp
      have eK : kB (u2 f 104 2 0) = kB f := by unfold kB; rw [u2_o (by omega), u2_o (by omega)]
      have e142 : (u2 f 104 2 0) 142 = f 142 := u2_row (by omega)
      have hcl := c_layFits (g := g) hρ hT1 hk (hN.km k0) (u2_n (by omega) hs) hsk (u2_n (by omega) hr) (m := mN) (by omega)
      rw [eK, e142] at hcl
      refine V_al0n dX12_fits_24 ?_
      refine V_il1n dX12_fits_25 ?_
      refine V_callV (as := [_]) ml_X12_570 im_X12_layFits se_X12_layFits kk104 (by decide) (by decide) dX12_fits_26 rfl rfl (by decide) (by decide) (Nat.le_of_ble_eq_true rfl) (by decide) (by decide) rfl (hcl) ?_
      rintro r26 ρ26 f26 g26 ⟨rfl, s26_0, k26, l26, fh⟩
      obtain rfl := s26_0.symm
      refine V_al0n dX12_fits_29 ?_
      refine V_getR kk104 (by decide) fl_X12_136 (fx_104_94 hρ) dX12_fits_30 ?_
      refine V_il2n dX12_fits_33 ?_
      refine V_iald (k := w.toNat) kk144 (by decide) (by first | rfl | omega) (by omega) (by first | decide | assumption | omega) (show f26 144 w.toNat = fTell (fitT T ra sk mN (f 142) (kB f)) w by unfold fTell; obtain ⟨a0, a1, a2, a3, a4⟩ := fh; rcases (show w = 0 ∨ w = 1 ∨ w = 2 ∨ w = 3 ∨ w = 4 by omega) with rfl | rfl | rfl | rfl | rfl; exact a0; exact a1; exact a2; exact a3; exact a4) dX12_fits_34 ?_
      exact V_ireturn rfl ⟨by rw [ea], rfl, k0.tr k26, l26⟩ dX12_fits_35
    · refine V_iconst dX12_fits_22 ?_
      exact V_ireturn rfl ⟨by unfold aFits okM; simp only [*]; simp, rfl, k0, KM.rf⟩ dX12_fits_23

