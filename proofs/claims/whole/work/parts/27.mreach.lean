/-! which winds and legs can be reached -/
def alw (k : Nat) (q p : Int) : Prop := ¬ (k = 0 ∧ 0 < q ∧ p ≠ q)
def tq (T : TT) (c : CC) (hc : Int) (k p i : Nat) : SS := th3 T c hc k (p : Int) ((i / 41 : Nat) : Int) ((i % 41 : Nat) : Int)
def nsp (T : TT) (c : CC) (hc : Int) (k p i : Nat) : Nat := (41 * (tq T c hc k p i).2.1 + (tq T c hc k p i).2.2.1).toNat
theorem tq_rng {T : TT} (hk : TOK T) {c : CC} (hc : CR c) {k : Nat} (hl : k < nLa T) {h : Nat} (hh : h < nHo T) {p : Nat} (hp : 1 ≤ p ∧ p ≤ 9) {i : Nat} (hi : i < 2501) : (0 ≤ (tq T c (T 117 h) k p i).1 ∧ (tq T c (T 117 h) k p i).1 ≤ 1980) ∧ (0 ≤ (tq T c (T 117 h) k p i).2.1 ∧ (tq T c (T 117 h) k p i).2.1 ≤ 60) ∧ (0 ≤ (tq T c (T 117 h) k p i).2.2.1 ∧ (tq T c (T 117 h) k p i).2.2.1 ≤ 40) ∧ nsp T c (T 117 h) k p i < 2501 := by
  have := th3_rng hk hc hl hh (pa := (p : Int)) (by omega) (w := ((i / 41 : Nat) : Int)) (l := ((i % 41 : Nat) : Int)) (by omega) (by omega)
  unfold nsp
  unfold tq
  omega
/-- what is reached goes on: the paces below P from the spot i of the stretch k -/
def Clo (T : TT) (c : CC) (hc q : Int) (r : Nat → Int) (k i P : Nat) : Prop := r (2501 * k + i) = 1 → ∀ p : Nat, 1 ≤ p → p < P → alw k q p → (tq T c hc k p i).2.2.1 ≠ 0 → r (2501 * (k + 1) + nsp T c hc k p i) = 1
def DoneR (T : TT) (c : CC) (hc q : Int) (r : Nat → Int) (K I : Nat) : Prop := ∀ k i, i < 2501 → (k < K ∨ (k = K ∧ i < I)) → Clo T c hc q r k i 10
def KD (b : Nat) (f f' : IT) : Prop := ∀ a k, ¬ (a = 104 ∧ (k = 66 ∨ 74 ≤ k ∧ k ≤ 77)) → a ≠ b → f' a k = f a k
theorem KD.rf {b : Nat} {f : IT} : KD b f f := fun _ _ _ _ => rfl
theorem KD.tr {b : Nat} {f f' f'' : IT} (h : KD b f f') (h' : KD b f' f'') : KD b f f'' := fun a k q r => (h' a k q r).trans (h a k q r)
theorem KS.kd {b : Nat} {f f' : IT} (h : KS f f') : KD b f f' := fun a k q _ => h a k q
theorem KD.u2 {b : Nat} {f f' : IT} {k : Nat} {x : Int} (h : KD b f f') : KD b f (u2 f' b k x) := fun a j q r => (u2_o (fun z => r z.1)).trans (h a j q r)
theorem KD.mt {b : Nat} (hb : half b = 0) (hb2 : b ≠ 104) {T : TT} {f f' : IT} (h : KD b f f') (hT : MT T f) : MT T f' := fun a k ht => (h a k (fun q => by
  unfold tx half at ht
  obtain ⟨rfl, q⟩ := q
  simp at ht
  omega) (fun q => by
  subst q
  unfold tx at ht
  simp [hb, hb2] at ht)).trans (hT a k ht)
theorem KD.mc {b : Nat} (hb2 : b ≠ 104) {c : CC} {f f' : IT} (h : KD b f f') (hM : MC c f) : MC c f' := ⟨(h 104 72 (by omega) (by omega)).trans hM.1, (h 104 68 (by omega) (by omega)).trans hM.2.1, (h 104 71 (by omega) (by omega)).trans hM.2.2.1, (h 104 70 (by omega) (by omega)).trans hM.2.2.2.1, (h 104 73 (by omega) (by omega)).trans hM.2.2.2.2⟩
/-- the loops' state: the row of what is reached, 0 or 1, the start among it -/
def RI (T : TT) (c : CC) (f0 f : IT) (g0 g : JT) (st : Nat) : Prop := MT T f ∧ MC c f ∧ KD 139 f0 f ∧ KG g0 g ∧ (∀ j, j < 17507 → f 139 j = 0 ∨ f 139 j = 1) ∧ f 139 st = 1
theorem RI.ks {T : TT} {c : CC} {f0 f f' : IT} {g0 g g' : JT} {st : Nat} (h : RI T c f0 f g0 g st) (ks : KS f f') (kg : KG g g') : RI T c f0 f' g0 g' st :=
  ⟨ks.mt h.1, ks.mc h.2.1, h.2.2.1.tr ks.kd, h.2.2.2.1.tr kg, fun j hj => by rw [ks 139 j (by omega)]; exact h.2.2.2.2.1 j hj, by rw [ks 139 st (by omega)]; exact h.2.2.2.2.2⟩
theorem RI.up {T : TT} {c : CC} {f0 f : IT} {g0 g : JT} {st j : Nat} (h : RI T c f0 f g0 g st) : RI T c f0 (u2 f 139 j 1) g0 g st := by
  obtain ⟨h1, h2, h3, h4, h5, h6⟩ := h
  have kd : KD 139 f (u2 f 139 j 1) := KD.u2 KD.rf
  refine ⟨kd.mt rfl (by omega) h1, kd.mc (by omega) h2, h3.tr kd, h4, fun i hi => ?_, ?_⟩
  · unfold u2; split
    · exact Or.inr rfl
    · exact h5 i hi
  · unfold u2; split
    · rfl
    · exact h6
/-- more may be reached in a later stretch -/
theorem Clo.up {T : TT} {c : CC} {hc q : Int} {f : IT} {k i P K j : Nat} (hi : i < 2501) (hk : k ≤ K) (h : Clo T c hc q (f 139) k i P) : Clo T c hc q (u2 f 139 (2501 * (K + 1) + j) 1 139) k i P := by
  intro h1 p a1 a2 a3 a4
  rw [u2_o (by omega)] at h1
  have := h h1 p a1 a2 a3 a4
  unfold u2
  split
  · rfl
  · exact this
theorem Clo.same {T : TT} {c : CC} {hc q : Int} {r r' : Nat → Int} {k i P : Nat} (e : r' = r) (h : Clo T c hc q r k i P) : Clo T c hc q r' k i P := e ▸ h
theorem w_lrP {T : TT} {Q : QT} {ρ : RT} {f0 : IT} {g0 : JT} (hρ : Fx ρ) (hk : TOK T) {h : Nat} (hh : h < nHo T) {c : CC} (hc : CR c) {q : Int} (hq : 0 ≤ q ∧ q ≤ 9) {st k i : Nat} (hkl : k < nLa T) (hi : i < 2501)
    (hX : ∀ (f : IT) (g : JT), RI T c f0 f g0 g st → DoneR T c (T 117 h) q (f 139) k (i + 1) → V_X12_layReached Q 154 [.ref 104, .int (iz (h : Int)), .int (iz q), .int (iz (k : Int)), .int (iz (i : Int)), .null] [] ρ f g)
    (p : Nat) (hp : 1 ≤ p ∧ p ≤ 10) (f : IT) (g : JT) (hI : RI T c f0 f g0 g st) (hD : DoneR T c (T 117 h) q (f 139) k i) (hC : Clo T c (T 117 h) q (f 139) k i p) :
    V_X12_layReached Q 83 [.ref 104, .int (iz (h : Int)), .int (iz q), .int (iz (k : Int)), .int (iz (i : Int)), .int (iz (p : Int))] [] ρ f g := by
  have h6 := hk.la
  obtain ⟨hT, hM, hkd, hkg, h01, hst⟩ := hI
  have hI : RI T c f0 f g0 g st := ⟨hT, hM, hkd, hkg, h01, hst⟩
  refine V_il5 dX12_layReached_83 ?_
  refine V_bipush dX12_layReached_85 rfl ?_
  refine V_icmp_ge (tgt := 154) dX12_layReached_87 rfl (by first | assumption | (unfold ri at *; omega)) (by first | assumption | (unfold ri at *; omega)) (fun b87 => ?_) (fun b87 => ?_)
  · have ep : p = 10 := by omega
    subst ep
    exact V_weak (by repeat (first | exact wk_n | refine wk_c (Or.inr rfl) ?_ | refine wk_c (Or.inl rfl) ?_)) (hX f g hI (fun k' i' a1 a2 => by
      by_cases e : k' = k ∧ i' = i
      · rw [e.1, e.2]; exact hC
      · exact hD k' i' a1 (by omega)))
  · refine V_il3n dX12_layReached_90 ?_
    refine V_if_ne (tgt := 107) dX12_layReached_91 rfl (by first | assumption | (unfold ri at *; omega)) (fun b91 => ?_) (fun b91 => ?_)
    · refine V_al0n dX12_layReached_107 ?_
      refine V_il3n dX12_layReached_108 ?_
      refine V_il1n dX12_layReached_109 ?_
      refine V_il5 dX12_layReached_110 ?_
      refine V_il4 dX12_layReached_112 ?_
      refine V_bipush dX12_layReached_114 rfl ?_
      refine V_idiv dX12_layReached_116 (iz_ne (by unfold ri; omega) (by omega)) (iz_div (by omega) (by omega) (by unfold ri; omega) (by unfold ri; omega)) ?_
      refine V_il4 dX12_layReached_117 ?_
      refine V_bipush dX12_layReached_119 rfl ?_
      refine V_irem dX12_layReached_121 (iz_ne (by unfold ri; omega) (by omega)) (iz_rem (by omega) (by omega) (by unfold ri; omega) (by unfold ri; omega)) ?_
      refine V_callV (as := [_, _, _, _, _]) ml_X12_521 im_X12_through se_X12_through kk104 (by decide) (by decide) dX12_layReached_122 rfl rfl (by decide) (by decide) (Nat.le_of_ble_eq_true rfl) (by decide) (by decide) rfl (c_through hρ hT hk hkl hh hc hM (pa := (p : Int)) (w := ((i / 41 : Nat) : Int)) (l := ((i % 41 : Nat) : Int)) (by omega) (by omega) (by omega)) ?_
      rintro r122 ρ122 f122 g122 ⟨bb, rfl, s122_0, ks, kg, hb1, hb2⟩
      obtain rfl := s122_0.symm
      have row : f122 139 = f 139 := funext fun j => ks 139 j (by omega)
      have tr := tq_rng hk hc hkl hh (p := p) (by omega) hi
      refine V_bt (tgt := 148) dX12_layReached_125 rfl (fun b125 => ?_) (fun b125 => ?_)
      · refine V_inc5 dX12_layReached_148 (by decide) rfl ?_
        refine V_goto (tgt := 83) dX12_layReached_151 rfl ?_
        first | exact w_lrP hρ hk hh hc hq hkl hi hX (p + 1) (by omega) _ _ (hI.ks ks kg).up (fun k' i' a1 a2 => (Clo.same row (hD k' i' a1 a2)).up a1 (by omega)) (fun c1 p' a1 a2 a3 a4 => by
          by_cases e : p' = p
          · rw [e]; exact u2_s
          · exact ((Clo.same row hC).up hi (Nat.le_refl k)) c1 p' a1 (by omega) a3 a4) | exact w_lrP hρ hk hh hc hq hkl hi hX (p + 1) (by omega) _ _ (hI.ks ks kg) (fun k' i' a1 a2 => Clo.same row (hD k' i' a1 a2)) (Clo.same row (fun c1 p' a1 a2 a3 a4 => by
          by_cases e : p' = p
          · subst e; exact absurd (hb1.mpr a4) (by rw [b125]; exact Bool.false_ne_true)
          · exact hC c1 p' a1 (by omega) a3 a4)) | exact w_lrP hρ hk hh hc hq hkl hi hX (p + 1) (by omega) _ _ hI hD (fun c1 p' a1 a2 a3 a4 => by
          by_cases e : p' = p
          · exfalso; unfold alw at a3; omega
          · exact hC c1 p' a1 (by omega) a3 a4)
      · obtain ⟨t1, t2, t3⟩ := hb2 b125
        refine V_al0n dX12_layReached_128 ?_
        refine V_getR kk104 (by decide) fl_X12_118 (fx_104_84 hρ) dX12_layReached_129 ?_
        refine V_il3n dX12_layReached_132 ?_
        refine V_iconst dX12_layReached_133 ?_
        refine V_iadd dX12_layReached_134 ?_
        refine V_al0n dX12_layReached_135 ?_
        refine V_getI kk104 (by decide) fl_X12_417 t2 dX12_layReached_136 ?_
        refine V_al0n dX12_layReached_139 ?_
        refine V_getI kk104 (by decide) fl_X12_420 t3 dX12_layReached_140 ?_
        refine V_callS (as := [_, _, _]) ml_X12_517 sm_X12_spot dX12_layReached_143 rfl rfl (by decide) (by decide) (Nat.le_of_ble_eq_true rfl) (by decide) (by decide) rfl (c_spot) ?_
        refine pq4 ?_
        refine V_iconst dX12_layReached_146 ?_
        refine V_zast (k := 2501 * (k + 1) + nsp T c (T 117 h) k p i) kk139 (by decide) (by unfold nsp tq at *; omega) (by omega) (by first | decide | assumption | omega) (by first | exact Or.inl rfl | exact Or.inr rfl | (unfold bz; split <;> simp)) dX12_layReached_147 ?_
        refine V_inc5 dX12_layReached_148 (by decide) rfl ?_
        refine V_goto (tgt := 83) dX12_layReached_151 rfl ?_
        first | exact w_lrP hρ hk hh hc hq hkl hi hX (p + 1) (by omega) _ _ (hI.ks ks kg).up (fun k' i' a1 a2 => (Clo.same row (hD k' i' a1 a2)).up a1 (by omega)) (fun c1 p' a1 a2 a3 a4 => by
          by_cases e : p' = p
          · rw [e]; exact u2_s
          · exact ((Clo.same row hC).up hi (Nat.le_refl k)) c1 p' a1 (by omega) a3 a4) | exact w_lrP hρ hk hh hc hq hkl hi hX (p + 1) (by omega) _ _ (hI.ks ks kg) (fun k' i' a1 a2 => Clo.same row (hD k' i' a1 a2)) (Clo.same row (fun c1 p' a1 a2 a3 a4 => by
          by_cases e : p' = p
          · subst e; exact absurd (hb1.mpr a4) (by rw [b125]; exact Bool.false_ne_true)
          · exact hC c1 p' a1 (by omega) a3 a4)) | exact w_lrP hρ hk hh hc hq hkl hi hX (p + 1) (by omega) _ _ hI hD (fun c1 p' a1 a2 a3 a4 => by
          by_cases e : p' = p
          · exfalso; unfold alw at a3; omega
          · exact hC c1 p' a1 (by omega) a3 a4)
    · refine V_il2n dX12_layReached_94 ?_
      refine V_if_le (tgt := 107) dX12_layReached_95 rfl (by first | assumption | (unfold ri at *; omega)) (fun b95 => ?_) (fun b95 => ?_)
      · refine V_al0n dX12_layReached_107 ?_
        refine V_il3n dX12_layReached_108 ?_
        refine V_il1n dX12_layReached_109 ?_
        refine V_il5 dX12_layReached_110 ?_
        refine V_il4 dX12_layReached_112 ?_
        refine V_bipush dX12_layReached_114 rfl ?_
        refine V_idiv dX12_layReached_116 (iz_ne (by unfold ri; omega) (by omega)) (iz_div (by omega) (by omega) (by unfold ri; omega) (by unfold ri; omega)) ?_
        refine V_il4 dX12_layReached_117 ?_
        refine V_bipush dX12_layReached_119 rfl ?_
        refine V_irem dX12_layReached_121 (iz_ne (by unfold ri; omega) (by omega)) (iz_rem (by omega) (by omega) (by unfold ri; omega) (by unfold ri; omega)) ?_
        refine V_callV (as := [_, _, _, _, _]) ml_X12_521 im_X12_through se_X12_through kk104 (by decide) (by decide) dX12_layReached_122 rfl rfl (by decide) (by decide) (Nat.le_of_ble_eq_true rfl) (by decide) (by decide) rfl (c_through hρ hT hk hkl hh hc hM (pa := (p : Int)) (w := ((i / 41 : Nat) : Int)) (l := ((i % 41 : Nat) : Int)) (by omega) (by omega) (by omega)) ?_
        rintro r122 ρ122 f122 g122 ⟨bb, rfl, s122_0, ks, kg, hb1, hb2⟩
        obtain rfl := s122_0.symm
        have row : f122 139 = f 139 := funext fun j => ks 139 j (by omega)
        have tr := tq_rng hk hc hkl hh (p := p) (by omega) hi
        refine V_bt (tgt := 148) dX12_layReached_125 rfl (fun b125 => ?_) (fun b125 => ?_)
        · refine V_inc5 dX12_layReached_148 (by decide) rfl ?_
          refine V_goto (tgt := 83) dX12_layReached_151 rfl ?_
          first | exact w_lrP hρ hk hh hc hq hkl hi hX (p + 1) (by omega) _ _ (hI.ks ks kg).up (fun k' i' a1 a2 => (Clo.same row (hD k' i' a1 a2)).up a1 (by omega)) (fun c1 p' a1 a2 a3 a4 => by
            by_cases e : p' = p
            · rw [e]; exact u2_s
            · exact ((Clo.same row hC).up hi (Nat.le_refl k)) c1 p' a1 (by omega) a3 a4) | exact w_lrP hρ hk hh hc hq hkl hi hX (p + 1) (by omega) _ _ (hI.ks ks kg) (fun k' i' a1 a2 => Clo.same row (hD k' i' a1 a2)) (Clo.same row (fun c1 p' a1 a2 a3 a4 => by
            by_cases e : p' = p
            · subst e; exact absurd (hb1.mpr a4) (by rw [b125]; exact Bool.false_ne_true)
            · exact hC c1 p' a1 (by omega) a3 a4)) | exact w_lrP hρ hk hh hc hq hkl hi hX (p + 1) (by omega) _ _ hI hD (fun c1 p' a1 a2 a3 a4 => by
            by_cases e : p' = p
            · exfalso; unfold alw at a3; omega
            · exact hC c1 p' a1 (by omega) a3 a4)
        · obtain ⟨t1, t2, t3⟩ := hb2 b125
          refine V_al0n dX12_layReached_128 ?_
          refine V_getR kk104 (by decide) fl_X12_118 (fx_104_84 hρ) dX12_layReached_129 ?_
          refine V_il3n dX12_layReached_132 ?_
          refine V_iconst dX12_layReached_133 ?_
          refine V_iadd dX12_layReached_134 ?_
          refine V_al0n dX12_layReached_135 ?_
          refine V_getI kk104 (by decide) fl_X12_417 t2 dX12_layReached_136 ?_
          refine V_al0n dX12_layReached_139 ?_
          refine V_getI kk104 (by decide) fl_X12_420 t3 dX12_layReached_140 ?_
          refine V_callS (as := [_, _, _]) ml_X12_517 sm_X12_spot dX12_layReached_143 rfl rfl (by decide) (by decide) (Nat.le_of_ble_eq_true rfl) (by decide) (by decide) rfl (c_spot) ?_
          refine pq4 ?_
          refine V_iconst dX12_layReached_146 ?_
          refine V_zast (k := 2501 * (k + 1) + nsp T c (T 117 h) k p i) kk139 (by decide) (by unfold nsp tq at *; omega) (by omega) (by first | decide | assumption | omega) (by first | exact Or.inl rfl | exact Or.inr rfl | (unfold bz; split <;> simp)) dX12_layReached_147 ?_
          refine V_inc5 dX12_layReached_148 (by decide) rfl ?_
          refine V_goto (tgt := 83) dX12_layReached_151 rfl ?_
          first | exact w_lrP hρ hk hh hc hq hkl hi hX (p + 1) (by omega) _ _ (hI.ks ks kg).up (fun k' i' a1 a2 => (Clo.same row (hD k' i' a1 a2)).up a1 (by omega)) (fun c1 p' a1 a2 a3 a4 => by
            by_cases e : p' = p
            · rw [e]; exact u2_s
            · exact ((Clo.same row hC).up hi (Nat.le_refl k)) c1 p' a1 (by omega) a3 a4) | exact w_lrP hρ hk hh hc hq hkl hi hX (p + 1) (by omega) _ _ (hI.ks ks kg) (fun k' i' a1 a2 => Clo.same row (hD k' i' a1 a2)) (Clo.same row (fun c1 p' a1 a2 a3 a4 => by
            by_cases e : p' = p
            · subst e; exact absurd (hb1.mpr a4) (by rw [b125]; exact Bool.false_ne_true)
            · exact hC c1 p' a1 (by omega) a3 a4)) | exact w_lrP hρ hk hh hc hq hkl hi hX (p + 1) (by omega) _ _ hI hD (fun c1 p' a1 a2 a3 a4 => by
            by_cases e : p' = p
            · exfalso; unfold alw at a3; omega
            · exact hC c1 p' a1 (by omega) a3 a4)
      · refine V_il5 dX12_layReached_98 ?_
        refine V_il2n dX12_layReached_100 ?_
        refine V_icmp_eq (tgt := 107) dX12_layReached_101 rfl (by first | assumption | (unfold ri at *; omega)) (by first | assumption | (unfold ri at *; omega)) (fun b101 => ?_) (fun b101 => ?_)
        · refine V_al0n dX12_layReached_107 ?_
          refine V_il3n dX12_layReached_108 ?_
          refine V_il1n dX12_layReached_109 ?_
          refine V_il5 dX12_layReached_110 ?_
          refine V_il4 dX12_layReached_112 ?_
          refine V_bipush dX12_layReached_114 rfl ?_
          refine V_idiv dX12_layReached_116 (iz_ne (by unfold ri; omega) (by omega)) (iz_div (by omega) (by omega) (by unfold ri; omega) (by unfold ri; omega)) ?_
          refine V_il4 dX12_layReached_117 ?_
          refine V_bipush dX12_layReached_119 rfl ?_
          refine V_irem dX12_layReached_121 (iz_ne (by unfold ri; omega) (by omega)) (iz_rem (by omega) (by omega) (by unfold ri; omega) (by unfold ri; omega)) ?_
          refine V_callV (as := [_, _, _, _, _]) ml_X12_521 im_X12_through se_X12_through kk104 (by decide) (by decide) dX12_layReached_122 rfl rfl (by decide) (by decide) (Nat.le_of_ble_eq_true rfl) (by decide) (by decide) rfl (c_through hρ hT hk hkl hh hc hM (pa := (p : Int)) (w := ((i / 41 : Nat) : Int)) (l := ((i % 41 : Nat) : Int)) (by omega) (by omega) (by omega)) ?_
          rintro r122 ρ122 f122 g122 ⟨bb, rfl, s122_0, ks, kg, hb1, hb2⟩
          obtain rfl := s122_0.symm
          have row : f122 139 = f 139 := funext fun j => ks 139 j (by omega)
          have tr := tq_rng hk hc hkl hh (p := p) (by omega) hi
          refine V_bt (tgt := 148) dX12_layReached_125 rfl (fun b125 => ?_) (fun b125 => ?_)
          · refine V_inc5 dX12_layReached_148 (by decide) rfl ?_
            refine V_goto (tgt := 83) dX12_layReached_151 rfl ?_
            first | exact w_lrP hρ hk hh hc hq hkl hi hX (p + 1) (by omega) _ _ (hI.ks ks kg).up (fun k' i' a1 a2 => (Clo.same row (hD k' i' a1 a2)).up a1 (by omega)) (fun c1 p' a1 a2 a3 a4 => by
              by_cases e : p' = p
              · rw [e]; exact u2_s
              · exact ((Clo.same row hC).up hi (Nat.le_refl k)) c1 p' a1 (by omega) a3 a4) | exact w_lrP hρ hk hh hc hq hkl hi hX (p + 1) (by omega) _ _ (hI.ks ks kg) (fun k' i' a1 a2 => Clo.same row (hD k' i' a1 a2)) (Clo.same row (fun c1 p' a1 a2 a3 a4 => by
              by_cases e : p' = p
              · subst e; exact absurd (hb1.mpr a4) (by rw [b125]; exact Bool.false_ne_true)
              · exact hC c1 p' a1 (by omega) a3 a4)) | exact w_lrP hρ hk hh hc hq hkl hi hX (p + 1) (by omega) _ _ hI hD (fun c1 p' a1 a2 a3 a4 => by
              by_cases e : p' = p
              · exfalso; unfold alw at a3; omega
              · exact hC c1 p' a1 (by omega) a3 a4)
          · obtain ⟨t1, t2, t3⟩ := hb2 b125
            refine V_al0n dX12_layReached_128 ?_
            refine V_getR kk104 (by decide) fl_X12_118 (fx_104_84 hρ) dX12_layReached_129 ?_
            refine V_il3n dX12_layReached_132 ?_
            refine V_iconst dX12_layReached_133 ?_
            refine V_iadd dX12_layReached_134 ?_
            refine V_al0n dX12_layReached_135 ?_
            refine V_getI kk104 (by decide) fl_X12_417 t2 dX12_layReached_136 ?_
            refine V_al0n dX12_layReached_139 ?_
            refine V_getI kk104 (by decide) fl_X12_420 t3 dX12_layReached_140 ?_
            refine V_callS (as := [_, _, _]) ml_X12_517 sm_X12_spot dX12_layReached_143 rfl rfl (by decide) (by decide) (Nat.le_of_ble_eq_true rfl) (by decide) (by decide) rfl (c_spot) ?_
            refine pq4 ?_
            refine V_iconst dX12_layReached_146 ?_
            refine V_zast (k := 2501 * (k + 1) + nsp T c (T 117 h) k p i) kk139 (by decide) (by unfold nsp tq at *; omega) (by omega) (by first | decide | assumption | omega) (by first | exact Or.inl rfl | exact Or.inr rfl | (unfold bz; split <;> simp)) dX12_layReached_147 ?_
            refine V_inc5 dX12_layReached_148 (by decide) rfl ?_
            refine V_goto (tgt := 83) dX12_layReached_151 rfl ?_
            first | exact w_lrP hρ hk hh hc hq hkl hi hX (p + 1) (by omega) _ _ (hI.ks ks kg).up (fun k' i' a1 a2 => (Clo.same row (hD k' i' a1 a2)).up a1 (by omega)) (fun c1 p' a1 a2 a3 a4 => by
              by_cases e : p' = p
              · rw [e]; exact u2_s
              · exact ((Clo.same row hC).up hi (Nat.le_refl k)) c1 p' a1 (by omega) a3 a4) | exact w_lrP hρ hk hh hc hq hkl hi hX (p + 1) (by omega) _ _ (hI.ks ks kg) (fun k' i' a1 a2 => Clo.same row (hD k' i' a1 a2)) (Clo.same row (fun c1 p' a1 a2 a3 a4 => by
              by_cases e : p' = p
              · subst e; exact absurd (hb1.mpr a4) (by rw [b125]; exact Bool.false_ne_true)
              · exact hC c1 p' a1 (by omega) a3 a4)) | exact w_lrP hρ hk hh hc hq hkl hi hX (p + 1) (by omega) _ _ hI hD (fun c1 p' a1 a2 a3 a4 => by
              by_cases e : p' = p
              · exfalso; unfold alw at a3; omega
              · exact hC c1 p' a1 (by omega) a3 a4)
        · refine V_goto (tgt := 148) dX12_layReached_104 rfl ?_
          refine V_inc5 dX12_layReached_148 (by decide) rfl ?_
          refine V_goto (tgt := 83) dX12_layReached_151 rfl ?_
          first | exact w_lrP hρ hk hh hc hq hkl hi hX (p + 1) (by omega) _ _ (hI.ks ks kg).up (fun k' i' a1 a2 => (Clo.same row (hD k' i' a1 a2)).up a1 (by omega)) (fun c1 p' a1 a2 a3 a4 => by
            by_cases e : p' = p
            · rw [e]; exact u2_s
            · exact ((Clo.same row hC).up hi (Nat.le_refl k)) c1 p' a1 (by omega) a3 a4) | exact w_lrP hρ hk hh hc hq hkl hi hX (p + 1) (by omega) _ _ (hI.ks ks kg) (fun k' i' a1 a2 => Clo.same row (hD k' i' a1 a2)) (Clo.same row (fun c1 p' a1 a2 a3 a4 => by
            by_cases e : p' = p
            · subst e; exact absurd (hb1.mpr a4) (by rw [b125]; exact Bool.false_ne_true)
            · exact hC c1 p' a1 (by omega) a3 a4)) | exact w_lrP hρ hk hh hc hq hkl hi hX (p + 1) (by omega) _ _ hI hD (fun c1 p' a1 a2 a3 a4 => by
            by_cases e : p' = p
            · exfalso; unfold alw at a3; omega
            · exact hC c1 p' a1 (by omega) a3 a4)
termination_by 10 - p

