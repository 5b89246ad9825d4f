section CFITS
variable {T : TT} {b : Nat} {ρ : RT} {φ : IT}
/-- what is kept of the fits -/
def FE (W : Int) (x : FT) (f : IT) : Prop := f 73 11 = x.1 ∧ ((x = (0, -2, -2, -2, -2)) ∨ (1 ≤ x.1 ∧ (f 80 0 = x.2.1 ∧ f 80 1 = x.2.2.1 ∧ f 80 2 = x.2.2.2.1 ∧ f 80 3 = x.2.2.2.2) ∧ (1 ≤ x.2.1 ∧ x.2.1 ≤ x.2.2.1 ∧ x.2.2.1 ≤ W) ∧ (1 ≤ x.2.2.2.1 ∧ x.2.2.2.1 ≤ 40) ∧ (1 ≤ x.2.2.2.2 ∧ x.2.2.2.2 ≤ 40)))
theorem FE.cg {W : Int} {x : FT} {f f' : IT} (h : FE W x f) (e1 : f' 73 11 = f 73 11) (e2 : ∀ k, f' 80 k = f 80 k) : FE W x f' := by
  unfold FE
  rw [e1, e2, e2, e2, e2]
  exact h
theorem FE.wk {W W' : Int} {x : FT} {f : IT} (h : FE W x f) (hw : W ≤ W') : FE W' x f := by
  refine ⟨h.1, ?_⟩
  rcases h.2 with q | ⟨q1, q2, q3, q4⟩
  · exact Or.inl q
  · exact Or.inr ⟨q1, q2, by omega, q4⟩
theorem c_widen {f : IT} {g : JT} (hρ : Fx ρ) {w l : Int} (hw : 1 ≤ w ∧ w ≤ 60) (hl : 1 ≤ l ∧ l ≤ 40) {x : FT} (h : FE w x f) (hx : x.1 ≤ 3000) : C_X5_widen [.ref 73, .int (iz w), .int (iz l)] ρ f g (fun r ρ' f' g' => r = none ∧ ρ' = ρ ∧ FE w (fitS w l x) f' ∧ (∀ a k, a ≠ 80 → ¬ (a = 73 ∧ k = 11) → f' a k = f a k) ∧ g' = g) := by
  obtain ⟨e11, hx2⟩ := h
  refine Ct.ofV (by decide) rfl (Nat.le_of_ble_eq_true rfl) ?_
  rcases hx2 with q | ⟨q1, ⟨e0, e1, e2, e3⟩, q3, q4, q5⟩
  · subst q
    have fin : ∀ F : IT, F 73 11 = 0 + 1 → F 80 0 = w → F 80 1 = w → F 80 2 = l → F 80 3 = l → FE w (fitS w l (0, -2, -2, -2, -2)) F := fun F a1 a2 a3 a4 a5 => ⟨a1, Or.inr ⟨by simp [fitS], ⟨a2, a3, a4, by rw [a5]; simp [fitS]; omega⟩, by simp [fitS]; omega, by simp [fitS]; omega, by simp only [fitS]; split <;> omega⟩⟩
    refine V_al0n dX5_widen_0 ?_
    refine V_getR kk73 (by decide) fl_X5_51 (fx_73_12 hρ) dX5_widen_1 ?_
    refine V_iconst dX5_widen_4 ?_
    refine V_al0n dX5_widen_5 ?_
    refine V_getI kk73 (by decide) fl_X5_48 e11 dX5_widen_6 ?_
    refine V_if_ne (tgt := 16) dX5_widen_9 rfl (by unfold ri; omega) (fun b9 => ?_) (fun b9 => ?_)
    · exfalso; omega
    · refine V_il1n dX5_widen_12 ?_
      refine V_goto (tgt := 26) dX5_widen_13 rfl ?_
      refine V_iast (k := 0) kk80 (by decide) (by first | rfl | omega) (by omega) (by first | decide | assumption | omega) dX5_widen_26 ?_
      refine V_al0n dX5_widen_27 ?_
      refine V_getR kk73 (by decide) fl_X5_51 (fx_73_12 hρ) dX5_widen_28 ?_
      refine V_iconst dX5_widen_31 ?_
      refine V_al0n dX5_widen_32 ?_
      refine V_getI kk73 (by decide) fl_X5_48 (u2_n (by decide) e11) dX5_widen_33 ?_
      refine V_if_ne (tgt := 43) dX5_widen_36 rfl (by unfold ri; omega) (fun b36 => ?_) (fun b36 => ?_)
      · exfalso; omega
      · refine V_il1n dX5_widen_39 ?_
        refine V_goto (tgt := 53) dX5_widen_40 rfl ?_
        refine V_iast (k := 1) kk80 (by decide) (by first | rfl | omega) (by omega) (by first | decide | assumption | omega) dX5_widen_53 ?_
        refine V_al0n dX5_widen_54 ?_
        refine V_getR kk73 (by decide) fl_X5_51 (fx_73_12 hρ) dX5_widen_55 ?_
        refine V_iconst dX5_widen_58 ?_
        refine V_al0n dX5_widen_59 ?_
        refine V_getI kk73 (by decide) fl_X5_48 (u2_n (by decide) (u2_n (by decide) e11)) dX5_widen_60 ?_
        refine V_if_ne (tgt := 70) dX5_widen_63 rfl (by unfold ri; omega) (fun b63 => ?_) (fun b63 => ?_)
        · exfalso; omega
        · refine V_il2n dX5_widen_66 ?_
          refine V_goto (tgt := 80) dX5_widen_67 rfl ?_
          refine V_iast (k := 2) kk80 (by decide) (by first | rfl | omega) (by omega) (by first | decide | assumption | omega) dX5_widen_80 ?_
          refine V_al0n dX5_widen_81 ?_
          refine V_getR kk73 (by decide) fl_X5_51 (fx_73_12 hρ) dX5_widen_82 ?_
          refine V_iconst dX5_widen_85 ?_
          refine V_al0n dX5_widen_86 ?_
          refine V_getI kk73 (by decide) fl_X5_48 (u2_n (by decide) (u2_n (by decide) (u2_n (by decide) e11))) dX5_widen_87 ?_
          refine V_if_ne (tgt := 97) dX5_widen_90 rfl (by unfold ri; omega) (fun b90 => ?_) (fun b90 => ?_)
          · exfalso; omega
          · refine V_il2n dX5_widen_93 ?_
            refine V_goto (tgt := 107) dX5_widen_94 rfl ?_
            refine V_iast (k := 3) kk80 (by decide) (by first | rfl | omega) (by omega) (by first | decide | assumption | omega) dX5_widen_107 ?_
            refine V_al0n dX5_widen_108 ?_
            refine V_dup dX5_widen_109 rfl ?_
            refine V_getI kk73 (by decide) fl_X5_48 (u2_n (by decide) (u2_n (by decide) (u2_n (by decide) (u2_n (by decide) e11)))) dX5_widen_110 ?_
            refine V_iconst dX5_widen_113 ?_
            refine V_iadd dX5_widen_114 ?_
            refine V_putI kk73 (by decide) fl_X5_48 rfl dX5_widen_115 ?_
            exact V_return rfl ⟨rfl, rfl, fin _ (by simp [u2]) (by simp [u2]) (by simp [u2]) (by simp [u2]) (by simp [u2]), fun a k z1 z2 => by rw [u2_o (by omega), u2_o (by omega), u2_o (by omega), u2_o (by omega), u2_o (by omega)], rfl⟩ dX5_widen_118
  · have fin : ∀ F : IT, F 73 11 = x.1 + 1 → F 80 0 = (if w < x.2.1 then w else x.2.1) → F 80 1 = (if x.2.2.1 < w then w else x.2.2.1) → F 80 2 = (if l < x.2.2.2.1 then l else x.2.2.2.1) → F 80 3 = (if x.2.2.2.2 < l then l else x.2.2.2.2) → FE w (fitS w l x) F := fun F a1 a2 a3 a4 a5 => by
      rw [if_neg (by omega)] at a2
      have a3' : F 80 1 = w := by rw [a3]; split <;> omega
      refine ⟨a1, Or.inr ⟨by simp only [fitS]; omega, ⟨?_, ?_, ?_, ?_⟩, ?_, ?_, ?_⟩⟩
      · simp only [fitS]; rw [if_neg (by omega)]; exact a2
      · simp only [fitS]; exact a3'
      · simp only [fitS]; rw [a4]; (repeat' split) <;> omega
      · simp only [fitS]; rw [a5]
      · simp only [fitS]; rw [if_neg (by omega)]; omega
      · simp only [fitS]; split <;> omega
      · simp only [fitS]; split <;> omega
    refine V_al0n dX5_widen_0 ?_
    refine V_getR kk73 (by decide) fl_X5_51 (fx_73_12 hρ) dX5_widen_1 ?_
    refine V_iconst dX5_widen_4 ?_
    refine V_al0n dX5_widen_5 ?_
    refine V_getI kk73 (by decide) fl_X5_48 e11 dX5_widen_6 ?_
    refine V_if_ne (tgt := 16) dX5_widen_9 rfl (by unfold ri; omega) (fun b9 => ?_) (fun b9 => ?_)
    · refine V_al0n dX5_widen_16 ?_
      refine V_getR kk73 (by decide) fl_X5_51 (fx_73_12 hρ) dX5_widen_17 ?_
      refine V_iconst dX5_widen_20 ?_
      refine V_iald (k := 0) kk80 (by decide) (by first | rfl | omega) (by omega) (by first | decide | assumption | omega) e0 dX5_widen_21 ?_
      refine V_il1n dX5_widen_22 ?_
      refine V_mmin ml_X5_54 sm_J9_min_7cf53 dX5_widen_23 (by unfold ri; omega) (by unfold ri; omega) (by decide) (Nat.le_of_ble_eq_true rfl) (by decide) (by decide) ?_
      refine V_iast (k := 0) kk80 (by decide) (by first | rfl | omega) (by omega) (by first | decide | assumption | omega) dX5_widen_26 ?_
      refine V_al0n dX5_widen_27 ?_
      refine V_getR kk73 (by decide) fl_X5_51 (fx_73_12 hρ) dX5_widen_28 ?_
      refine V_iconst dX5_widen_31 ?_
      refine V_al0n dX5_widen_32 ?_
      refine V_getI kk73 (by decide) fl_X5_48 (u2_n (by decide) e11) dX5_widen_33 ?_
      refine V_if_ne (tgt := 43) dX5_widen_36 rfl (by unfold ri; omega) (fun b36 => ?_) (fun b36 => ?_)
      · refine V_al0n dX5_widen_43 ?_
        refine V_getR kk73 (by decide) fl_X5_51 (fx_73_12 hρ) dX5_widen_44 ?_
        refine V_iconst dX5_widen_47 ?_
        refine V_iald (k := 1) kk80 (by decide) (by first | rfl | omega) (by omega) (by first | decide | assumption | omega) (u2_n (by decide) e1) dX5_widen_48 ?_
        refine V_il1n dX5_widen_49 ?_
        refine V_mmax ml_X5_87 sm_J9_max_7cf53 dX5_widen_50 (by unfold ri; omega) (by unfold ri; omega) (by decide) (Nat.le_of_ble_eq_true rfl) (by decide) (by decide) ?_
        refine V_iast (k := 1) kk80 (by decide) (by first | rfl | omega) (by omega) (by first | decide | assumption | omega) dX5_widen_53 ?_
        refine V_al0n dX5_widen_54 ?_
        refine V_getR kk73 (by decide) fl_X5_51 (fx_73_12 hρ) dX5_widen_55 ?_
        refine V_iconst dX5_widen_58 ?_
        refine V_al0n dX5_widen_59 ?_
        refine V_getI kk73 (by decide) fl_X5_48 (u2_n (by decide) (u2_n (by decide) e11)) dX5_widen_60 ?_
        refine V_if_ne (tgt := 70) dX5_widen_63 rfl (by unfold ri; omega) (fun b63 => ?_) (fun b63 => ?_)
        · refine V_al0n dX5_widen_70 ?_
          refine V_getR kk73 (by decide) fl_X5_51 (fx_73_12 hρ) dX5_widen_71 ?_
          refine V_iconst dX5_widen_74 ?_
          refine V_iald (k := 2) kk80 (by decide) (by first | rfl | omega) (by omega) (by first | decide | assumption | omega) (u2_n (by decide) (u2_n (by decide) e2)) dX5_widen_75 ?_
          refine V_il2n dX5_widen_76 ?_
          refine V_mmin ml_X5_54 sm_J9_min_7cf53 dX5_widen_77 (by unfold ri; omega) (by unfold ri; omega) (by decide) (Nat.le_of_ble_eq_true rfl) (by decide) (by decide) ?_
          refine V_iast (k := 2) kk80 (by decide) (by first | rfl | omega) (by omega) (by first | decide | assumption | omega) dX5_widen_80 ?_
          refine V_al0n dX5_widen_81 ?_
          refine V_getR kk73 (by decide) fl_X5_51 (fx_73_12 hρ) dX5_widen_82 ?_
          refine V_iconst dX5_widen_85 ?_
          refine V_al0n dX5_widen_86 ?_
          refine V_getI kk73 (by decide) fl_X5_48 (u2_n (by decide) (u2_n (by decide) (u2_n (by decide) e11))) dX5_widen_87 ?_
          refine V_if_ne (tgt := 97) dX5_widen_90 rfl (by unfold ri; omega) (fun b90 => ?_) (fun b90 => ?_)
          · refine V_al0n dX5_widen_97 ?_
            refine V_getR kk73 (by decide) fl_X5_51 (fx_73_12 hρ) dX5_widen_98 ?_
            refine V_iconst dX5_widen_101 ?_
            refine V_iald (k := 3) kk80 (by decide) (by first | rfl | omega) (by omega) (by first | decide | assumption | omega) (u2_n (by decide) (u2_n (by decide) (u2_n (by decide) e3))) dX5_widen_102 ?_
            refine V_il2n dX5_widen_103 ?_
            refine V_mmax ml_X5_87 sm_J9_max_7cf53 dX5_widen_104 (by unfold ri; omega) (by unfold ri; omega) (by decide) (Nat.le_of_ble_eq_true rfl) (by decide) (by decide) ?_
            refine V_iast (k := 3) kk80 (by decide) (by first | rfl | omega) (by omega) (by first | decide | assumption | omega) dX5_widen_107 ?_
            refine V_al0n dX5_widen_108 ?_
            refine V_dup dX5_widen_109 rfl ?_
            refine V_getI kk73 (by decide) fl_X5_48 (u2_n (by decide) (u2_n (by decide) (u2_n (by decide) (u2_n (by decide) e11)))) dX5_widen_110 ?_
            refine V_iconst dX5_widen_113 ?_
            refine V_iadd dX5_widen_114 ?_
            refine V_putI kk73 (by decide) fl_X5_48 rfl dX5_widen_115 ?_
            exact V_return rfl ⟨rfl, rfl, fin _ (by simp [u2]) (by simp [u2]) (by simp [u2]) (by simp [u2]) (by simp [u2]), fun a k z1 z2 => by rw [u2_o (by omega), u2_o (by omega), u2_o (by omega), u2_o (by omega), u2_o (by omega)], rfl⟩ dX5_widen_118
          · exfalso; omega
        · exfalso; omega
      · exfalso; omega
    · exfalso; omega
theorem c_tells {f : IT} {g : JT} (hρ : Fx ρ) {x : FT} (h : FE 60 x f) (hx : x.1 ≤ 3000) {w : Int} (hw : 0 ≤ w ∧ w ≤ 4) : C_X5_tells [.ref 73, .int (iz w)] ρ f g (fun r ρ' f' g' => r = some (.int (iz (fTell x w))) ∧ ρ' = ρ ∧ f' = f ∧ g' = g) := by
  obtain ⟨e11, hx2⟩ := h
  have rx : ri x.1 := by
    rcases hx2 with q | q
    · rw [q]; unfold ri; simp
    · unfold ri; omega
  have hv : x.1 ≠ 0 → 1 ≤ w → f 80 (w - 1).toNat = fTell x w := fun z z2 => by
    rcases hx2 with q | ⟨q1, ⟨e0, e1, e2, e3⟩, -⟩
    · rw [q] at z; simp at z
    · unfold fTell
      rcases (show w = 1 ∨ w = 2 ∨ w = 3 ∨ w = 4 by omega) with r | r | r | r <;> subst r
      · exact e0
      · exact e1
      · exact e2
      · exact e3
  have hz : x.1 = 0 → w ≠ 0 → fTell x w = -2 := fun z z2 => by
    rcases hx2 with q | ⟨q1, -⟩
    · rw [q]
      unfold fTell
      rw [if_neg z2]
      simp
    · omega
  refine Ct.ofV (by decide) rfl (Nat.le_of_ble_eq_true rfl) ?_
  refine V_il1n dX5_tells_0 ?_
  refine V_if_ne (tgt := 9) dX5_tells_1 rfl (by unfold ri; omega) (fun b1 => ?_) (fun b1 => ?_)
  · refine V_al0n dX5_tells_9 ?_
    refine V_getI kk73 (by decide) fl_X5_48 e11 dX5_tells_10 ?_
    refine V_if_eq (tgt := 26) dX5_tells_13 rfl rx (fun b13 => ?_) (fun b13 => ?_)
    · refine V_bipush dX5_tells_26 rfl ?_
      refine V_goto (tgt := 39) dX5_tells_28 rfl ?_
      exact V_ireturn rfl ⟨by first | rfl | rw [hz (by omega) (by omega)], rfl, rfl, rfl⟩ dX5_tells_39
    · refine V_il1n dX5_tells_16 ?_
      refine V_iconst dX5_tells_17 ?_
      refine V_icmp_lt (tgt := 26) dX5_tells_18 rfl (by unfold ri; omega) (by unfold ri; omega) (fun b18 => ?_) (fun b18 => ?_)
      · exfalso; omega
      · refine V_il1n dX5_tells_21 ?_
        refine V_iconst dX5_tells_22 ?_
        refine V_icmp_le (tgt := 31) dX5_tells_23 rfl (by unfold ri; omega) (by unfold ri; omega) (fun b23 => ?_) (fun b23 => ?_)
        · refine V_al0n dX5_tells_31 ?_
          refine V_getR kk73 (by decide) fl_X5_51 (fx_73_12 hρ) dX5_tells_32 ?_
          refine V_il1n dX5_tells_35 ?_
          refine V_iconst dX5_tells_36 ?_
          refine V_isub dX5_tells_37 ?_
          refine V_iald (k := (w - 1).toNat) kk80 (by decide) (by first | rfl | omega) (by omega) (by first | decide | assumption | omega) (hv (by omega) (by omega)) dX5_tells_38 ?_
          exact V_ireturn rfl ⟨by first | rfl | rw [hz (by omega) (by omega)], rfl, rfl, rfl⟩ dX5_tells_39
        · exfalso; omega
  · refine V_al0n dX5_tells_4 ?_
    refine V_getI kk73 (by decide) fl_X5_48 e11 dX5_tells_5 ?_
    exact V_ireturn rfl ⟨by unfold fTell; rw [if_pos (by omega)], rfl, rfl, rfl⟩ dX5_tells_8
/-- what the fits leave beside -/
def FLk (b : Nat) (f : IT) (g : JT) (f' : IT) (g' : JT) : Prop := (∀ a k, a ≠ 61 → a ≠ 65 → a ≠ 80 → ¬ (a = 73 ∧ k = 11) → f' a k = f a k) ∧ ∀ a, a ≠ 60 → a ≠ b + 22 → a ≠ b + 23 → g' a = g a
theorem FLk.rf {f : IT} {g : JT} : FLk b f g f g := ⟨fun _ _ _ _ _ _ => rfl, fun _ _ _ _ => rfl⟩
theorem FLk.tr {f f' f'' : IT} {g g' g'' : JT} (h : FLk b f g f' g') (h' : FLk b f' g' f'' g'') : FLk b f g f'' g'' := ⟨fun a k q1 q2 q3 q4 => (h'.1 a k q1 q2 q3 q4).trans (h.1 a k q1 q2 q3 q4), fun a q r s => (h'.2 a q r s).trans (h.2 a q r s)⟩
theorem DU.cg {A : Nat → Bool} {P S V : Nat → Int} {n : Nat} {od : Bool} {f f' : IT} (h : DU A P S V n od f) (e1 : ∀ k, f' 78 k = f 78 k) (e2 : ∀ k, f' 79 k = f 79 k) (e3 : f' 73 8 = f 73 8) : DU A P S V n od f' := by
  unfold DU
  rw [e3, show f' 78 = f 78 from funext e1, show f' 79 = f 79 from funext e2]
  exact h
section FIT
variable {ra : Bool} {sk : Int} {m : Nat} {f0 : IT} {g0 : JT} {Q : QT}
theorem w_fit67 (hW : TW T b ρ) (hN : NTK T φ) (hsk : 0 ≤ sk ∧ sk ≤ 30) (hm : m < nMe T) (hD : DU (ntA φ m) (ntP φ) (ntS φ) (ntV φ) (kB φ) false f0) (hE0 : GE T (c0 T ra sk m) f0) {w : Nat} (hw : 1 ≤ w ∧ w ≤ 60) {X : FT} {a3 : Int}
    (hX : ∀ (f : IT) (g : JT), CT T b f → GI T false ra f g → FLk b f0 g0 f g → FE (w : Int) X f → X.1 ≤ 40 * (w : Int) → V_X5_fit Q 101 [.ref 73, .ref 55, .ref 65, .int (iz a3), .int (iz (w : Int)), .null] [] ρ f g)
    (l : Nat) (hl : 1 ≤ l ∧ l ≤ 41) (x : FT) (hx : x.1 ≤ 40 * ((w : Int) - 1) + ((l : Int) - 1)) (f : IT) (g : JT) (hC : CT T b f) (hG : GI T false ra f g) (hK : FLk b f0 g0 f g) (hF : FE (w : Int) x f) (hR : X = ftL (soB T ra sk m (φ 142) (cRun (φ 142) (kB φ) (fun _ => true)) (kB φ)) (w : Int) (41 - l) l x) :
    V_X5_fit Q 67 [.ref 73, .ref 55, .ref 65, .int (iz a3), .int (iz (w : Int)), .int (iz (l : Int))] [] ρ f g := by
  have hρ := hW.1
  have hb := hW.2.1
  by_cases e : l = 41
  · subst e
    simp only [Nat.sub_self, ftL] at hR
    subst hR
    refine V_il5 dX5_fit_67 ?_
    refine V_bipush dX5_fit_69 rfl ?_
    refine V_icmp_gt (tgt := 101) dX5_fit_71 rfl (by unfold ri; omega) (by unfold ri; omega) (fun b71 => ?_) (fun b71 => ?_)
    · exact V_weak (by repeat (first | exact wk_n | refine wk_c (Or.inr rfl) ?_ | refine wk_c (Or.inl rfl) ?_)) (hX f g hC hG hK hF (by omega))
    · exfalso; omega
  · rw [show 41 - l = (41 - (l + 1)) + 1 by omega, ftL] at hR
    have hfit := c_isFit (ρ := ρ) (f0 := f) (g0 := g) hW hN hsk hm (w := (w : Int)) (l := (l : Int)) (by omega) (by omega) (hD.cg (fun k => hK.1 78 k (by omega) (by omega) (by omega) (by omega)) (fun k => hK.1 79 k (by omega) (by omega) (by omega) (by omega)) (hK.1 73 8 (by omega) (by omega) (by omega) (by omega))) (hE0.cg (fun k => hK.1 55 k (by omega) (by omega) (by omega) (by omega))) hC hG
    have wl : ∀ (f1 : IT) (g1 : JT), WLk b f g f1 g1 → FLk b f0 g0 f1 g1 := fun f1 g1 z => hK.tr ⟨fun a k z1 z2 _ _ => z.1 a k z1 z2, z.2⟩
    refine V_il5 dX5_fit_67 ?_
    refine V_bipush dX5_fit_69 rfl ?_
    refine V_icmp_gt (tgt := 101) dX5_fit_71 rfl (by unfold ri; omega) (by unfold ri; omega) (fun b71 => ?_) (fun b71 => ?_)
    · exfalso; omega
    · refine V_al0n dX5_fit_74 ?_
      refine V_al1n dX5_fit_75 ?_
      refine V_al2n dX5_fit_76 ?_
      refine V_il4 dX5_fit_77 ?_
      refine V_il5 dX5_fit_79 ?_
      refine V_callV (as := [_, _, _, _]) ml_X5_72 im_X5_isFit se_X5_isFit kk73 (by decide) (by decide) dX5_fit_81 rfl rfl (by decide) (by decide) (Nat.le_of_ble_eq_true rfl) (by decide) (by decide) rfl (hfit) ?_
      rintro r81 ρ81 f81 g81 ⟨rfl, s81_0, q1, q2, q3⟩
      obtain rfl := s81_0.symm
      have hF2 : FE (w : Int) x f81 := hF.cg (q3.1 73 11 (by omega) (by omega)) (fun k => q3.1 80 k (by omega) (by omega))
      refine V_bt (tgt := 95) dX5_fit_84 rfl (fun b84 => ?_) (fun b84 => ?_)
      · refine V_inc5 dX5_fit_95 (by decide) rfl ?_
        refine V_goto (tgt := 67) dX5_fit_98 rfl ?_
        rw [b84, if_neg Bool.false_ne_true] at hR
        exact w_fit67 hW hN hsk hm hD hE0 hw hX (l + 1) (by omega) x (by omega) f81 g81 q1 q2 (wl _ _ q3) hF2 hR
      · refine V_al0n dX5_fit_87 ?_
        refine V_il4 dX5_fit_88 ?_
        refine V_il5 dX5_fit_90 ?_
        refine V_callV (as := [_, _]) ml_X5_76 im_X5_widen se_X5_widen kk73 (by decide) (by decide) dX5_fit_92 rfl rfl (by decide) (by decide) (Nat.le_of_ble_eq_true rfl) (by decide) (by decide) rfl (c_widen (g := g81) hρ (w := (w : Int)) (l := (l : Int)) (by omega) (by omega) hF2 (by omega)) ?_
        rintro r92 ρ92 f92 g92 ⟨rfl, s92_0, p1, p2, s92_1⟩
        obtain rfl := s92_0.symm
        obtain rfl := s92_1.symm
        refine V_inc5 dX5_fit_95 (by decide) rfl ?_
        refine V_goto (tgt := 67) dX5_fit_98 rfl ?_
        rw [if_pos b84] at hR
        exact w_fit67 hW hN hsk hm hD hE0 hw hX (l + 1) (by omega) (fitS (w : Int) (l : Int) x) (by simp only [fitS]; omega) f92 g81 (q1.cg hb (fun a k z1 z2 => p2 a k (by omega) (by omega))) (q2.cg (fun a k z1 z2 => p2 a k (by omega) (by omega)) rfl) ((wl _ _ q3).tr ⟨fun a k z1 z2 z3 z4 => p2 a k z3 z4, fun _ _ _ _ => rfl⟩) p1 hR
termination_by 41 - l
theorem w_fit50 (hW : TW T b ρ) (hN : NTK T φ) (hsk : 0 ≤ sk ∧ sk ≤ 30) (hm : m < nMe T) (hD : DU (ntA φ m) (ntP φ) (ntS φ) (ntV φ) (kB φ) false f0) (hE0 : GE T (c0 T ra sk m) f0) {X : FT} {a3 : Int}
    (hQ : ∀ (f : IT) (g : JT), CT T b f → GI T false ra f g → FLk b f0 g0 f g → FE 60 X f → X.1 ≤ 2400 → Q none ρ f g)
    (w : Nat) (hw : 1 ≤ w ∧ w ≤ 61) (x : FT) (hx : x.1 ≤ 40 * ((w : Int) - 1)) (f : IT) (g : JT) (hC : CT T b f) (hG : GI T false ra f g) (hK : FLk b f0 g0 f g) (hF : FE ((w : Int) - 1) x f) (hR : X = ftW (soB T ra sk m (φ 142) (cRun (φ 142) (kB φ) (fun _ => true)) (kB φ)) (61 - w) w x) :
    V_X5_fit Q 50 [.ref 73, .ref 55, .ref 65, .int (iz a3), .int (iz (w : Int)), .null] [] ρ f g := by
  have hρ := hW.1
  have hb := hW.2.1
  by_cases e : w = 61
  · subst e
    simp only [Nat.sub_self, ftW] at hR
    subst hR
    refine V_il4 dX5_fit_50 ?_
    refine V_bipush dX5_fit_52 rfl ?_
    refine V_icmp_gt (tgt := 107) dX5_fit_54 rfl (by unfold ri; omega) (by unfold ri; omega) (fun b54 => ?_) (fun b54 => ?_)
    · exact V_return rfl (hQ f g hC hG hK hF (by omega)) dX5_fit_107
    · exfalso; omega
  · rw [show 61 - w = (61 - (w + 1)) + 1 by omega, ftW] at hR
    have e8 : f 73 8 = bz false := (hK.1 73 8 (by omega) (by omega) (by omega) (by omega)).trans hD.2.2.1
    have hin := w_fit67 (ρ := ρ) (Q := Q) (g0 := g0) (a3 := a3) hW hN hsk hm hD hE0 (w := w) (by omega) (X := ftL (soB T ra sk m (φ 142) (cRun (φ 142) (kB φ) (fun _ => true)) (kB φ)) (w : Int) 40 1 x) (by
      intro f1 g1 a1 a2 a4 a5 a6
      refine V_inc4 dX5_fit_101 (by decide) rfl ?_
      refine V_goto (tgt := 50) dX5_fit_104 rfl ?_
      exact w_fit50 hW hN hsk hm hD hE0 hQ (w + 1) (by omega) _ (by omega) f1 g1 a1 a2 a4 (a5.wk (by omega)) hR
      ) 1 (by omega) x (by omega) f g hC hG hK (hF.wk (by omega)) rfl
    refine V_il4 dX5_fit_50 ?_
    refine V_bipush dX5_fit_52 rfl ?_
    refine V_icmp_gt (tgt := 107) dX5_fit_54 rfl (by unfold ri; omega) (by unfold ri; omega) (fun b54 => ?_) (fun b54 => ?_)
    · exfalso; omega
    · refine V_al0n dX5_fit_57 ?_
      refine V_getZ kk73 (by decide) fl_X5_38 e8 dX5_fit_58 ?_
      refine V_bf (tgt := 107) dX5_fit_61 rfl (fun b61 => ?_) (fun b61 => ?_)
      · cases b61
      · refine V_iconst dX5_fit_64 ?_
        refine V_is5 dX5_fit_65 (by decide) rfl ?_
        exact hin
termination_by 61 - w
end FIT
theorem rn_ceq {c c' : CC} (h : ∀ k hc pa s, one T c k hc pa s = one T c' k hc pa s) (hc : Int) (pc : Nat → Int) : ∀ j s, rn T c hc pc j s = rn T c' hc pc j s
  | 0, s => rfl
  | j + 1, s => by rw [rn, rn, rn_ceq h hc pc j, thr_ceq h]
theorem fitT_ceq (hk : TOK T) (hP : TPF T) {ra : Bool} {sk sk' : Int} (h : ms T 2 sk = ms T 2 sk') (m : Nat) (r : Nat → Int) (K : Nat) : fitT T ra sk m r K = fitT T ra sk' m r K := by
  have h1 : ∀ w l p k, fitR T ra sk m w l p k = fitR T ra sk' m w l p k := fun w l p k => by
    unfold fitR
    exact rn_ceq (one_ceq (c := (false, ra, sk, T 115 m, w)) (c' := (false, ra, sk', T 115 m, w)) hk hP ⟨rfl, rfl, h, rfl, rfl⟩) _ _ _ _
  have h2 : soB T ra sk m r (cRun r K (fun _ => true)) K = soB T ra sk' m r (cRun r K (fun _ => true)) K := by
    funext w l
    unfold soB soI
    simp only [h1]
  unfold fitT
  rw [h2]
theorem ftL_no {so : Int → Int → Bool} (h : ∀ w l, so w l = false) {w : Int} : ∀ n l x, ftL so w n l x = x
  | 0, _, _ => rfl
  | n + 1, l, x => by rw [ftL, if_neg (by rw [h]; exact Bool.false_ne_true), ftL_no h n]
theorem ftW_no {so : Int → Int → Bool} (h : ∀ w l, so w l = false) : ∀ n w x, ftW so n w x = x
  | 0, _, _ => rfl
  | n + 1, w, x => by rw [ftW, ftL_no h, ftW_no h n]
/-- what the splits keep between calls -/
def SpI (T : TT) (f φ : IT) : Prop := ri (f 73 9) ∧ (0 ≤ f 73 10 ∧ f 73 10 ≤ f 55 5) ∧ (f 73 10 = f 55 5 → ∀ m : Nat, f 73 9 = (m : Int) → m < nMe T ∧ ∀ (ra : Bool) (sk : Int), 0 ≤ sk ∧ sk ≤ 30 → GE T (c0 T ra sk m) f → f 55 4 = bz false → f 55 3 = bz ra → FE 60 (fitT T ra sk m (φ 142) (kB φ)) f ∧ (fitT T ra sk m (φ 142) (kB φ)).1 ≤ 2400)
theorem SpI.ag {f f' : IT} {n : Int} (h : SpI T f φ) (ha : AG n f f') (e1 : ∀ k, f' 73 k = f 73 k) (e2 : ∀ k, f' 80 k = f 80 k) : SpI T f' φ := by
  obtain ⟨h1, h2, h3⟩ := h
  unfold SpI
  rw [e1 9, e1 10]
  refine ⟨h1, ?_, fun he m hm => ?_⟩
  · rcases ha.1 with a | a
    · rw [a]; exact h2
    · omega
  · rcases ha.1 with a | a
    · rw [a] at he
      obtain ⟨j1, j2⟩ := h3 he m hm
      exact ⟨j1, fun ra sk hs hE g4 g3 => by
        have := j2 ra sk hs (hE.cg (fun k => (a k).symm)) ((a 4).symm.trans g4) ((a 3).symm.trans g3)
        exact ⟨this.1.cg (e1 11) e2, this.2⟩⟩
    · omega
theorem SpI.no {f : IT} (h : f 73 9 = -1) (h2 : 0 ≤ f 73 10 ∧ f 73 10 ≤ f 55 5) : SpI T f φ := ⟨by rw [h]; unfold ri; omega, h2, fun _ m hm => by omega⟩
def FTk (b : Nat) (f : IT) (g : JT) (f' : IT) (g' : JT) : Prop := (∀ a k, a ≠ 61 → a ≠ 65 → ¬ (a = 73 ∧ 8 ≤ k ∧ k ≤ 11) → ¬ (77 ≤ a ∧ a ≤ 80) → f' a k = f a k) ∧ ∀ a, a ≠ 60 → a ≠ b + 22 → a ≠ b + 23 → g' a = g a
theorem c_fit {f : IT} {g : JT} (hW : TW T b ρ) (hC : CT T b f) {ra : Bool} (hG : GI T false ra f g) {sk : Int} (hsk : 0 ≤ sk ∧ sk ≤ 30) {m : Nat} (hm : m < nMe T) (hE : GE T (c0 T ra sk m) f) (hS : NSm T f φ) (hI : SpI T f φ) :
    C_X5_fit [.ref 73, .ref 55, .ref 65, .int (iz (m : Int))] ρ f g (fun r ρ' f' g' => r = none ∧ ρ' = ρ ∧ (FE 60 (fitT T ra sk m (φ 142) (kB φ)) f' ∧ (fitT T ra sk m (φ 142) (kB φ)).1 ≤ 2400) ∧ SpI T f' φ ∧ CT T b f' ∧ GI T false ra f' g' ∧ FTk b f g f' g') := by
  have hk := hW.2.2.2.2.1
  have hρ := hW.1
  have hb := hW.2.1
  have h5 := hk.me
  have hN := hS.1
  have hag := hG.2.2.2.2.1
  obtain ⟨i1, i2, i3⟩ := hI
  have fin : ∀ (f' : IT) (g' : JT), FTk b f g f' g' → f' 73 9 = (m : Int) → f' 73 10 = f 55 5 → FE 60 (fitT T ra sk m (φ 142) (kB φ)) f' → (fitT T ra sk m (φ 142) (kB φ)).1 ≤ 2400 → SpI T f' φ := fun f' g' a1 a2 a3 a4 a5 => by
    have e55 : ∀ k, f' 55 k = f 55 k := fun k => a1.1 55 k (by omega) (by omega) (by omega) (by omega)
    unfold SpI
    rw [a2, a3, e55 5]
    refine ⟨by unfold ri; omega, by omega, fun _ m' hm' => ?_⟩
    have : m' = m := by omega
    subst this
    refine ⟨hm, fun ra' sk' hs' hE' g4 g3 => ?_⟩
    have er : ra = ra' := bz_inj (hG.2.1.symm.trans ((e55 3).symm.trans g3))
    subst er
    have es : ms T 2 sk = ms T 2 sk' := by
      have q1 : f 55 2 = ms T 2 sk := hE.2
      have q2 : f' 55 2 = ms T 2 sk' := hE'.2
      rw [← q1, ← q2, e55]
    rw [← fitT_ceq hk hW.2.2.2.2.2 es]
    exact ⟨a4, a5⟩
  have go : V_X5_fit (fun r ρ' f' g' => r = none ∧ ρ' = ρ ∧ (FE 60 (fitT T ra sk m (φ 142) (kB φ)) f' ∧ (fitT T ra sk m (φ 142) (kB φ)).1 ≤ 2400) ∧ SpI T f' φ ∧ CT T b f' ∧ GI T false ra f' g' ∧ FTk b f g f' g') 20 [.ref 73, .ref 55, .ref 65, .int (iz (m : Int)), .null, .null] [] ρ f g := by
    have hS1 : NSm T (u2 (u2 (u2 f 73 9 (m : Int)) 73 10 (f 55 5)) 73 11 0) φ := hS.cg (by rw [u2_o (by omega), u2_o (by omega), u2_o (by omega)]) (by rw [u2_o (by omega), u2_o (by omega), u2_o (by omega)]) (fun a k z => by rw [u2_o (by omega), u2_o (by omega), u2_o (by omega)])
    have k1 : ∀ a k, ¬ (a = 73 ∧ 9 ≤ k ∧ k ≤ 11) → (u2 (u2 (u2 f 73 9 (m : Int)) 73 10 (f 55 5)) 73 11 0) a k = f a k := fun a k z => by rw [u2_o (by omega), u2_o (by omega), u2_o (by omega)]
    have k9 : (u2 (u2 (u2 f 73 9 (m : Int)) 73 10 (f 55 5)) 73 11 0) 73 9 = (m : Int) := by simp [u2]
    have k10 : (u2 (u2 (u2 f 73 9 (m : Int)) 73 10 (f 55 5)) 73 11 0) 73 10 = f 55 5 := by simp [u2]
    have k11 : (u2 (u2 (u2 f 73 9 (m : Int)) 73 10 (f 55 5)) 73 11 0) 73 11 = 0 := by simp [u2]
    have hso := c_strikeOut (g := g) hρ hk hS1
    refine V_al0n dX5_fit_20 ?_
    refine V_il3n dX5_fit_21 ?_
    refine V_putI kk73 (by decide) fl_X5_42 rfl dX5_fit_22 ?_
    refine V_al0n dX5_fit_25 ?_
    refine V_al1n dX5_fit_26 ?_
    refine V_getI kk55 (by decide) fl_X5_60 (u2_n (by decide) rfl) dX5_fit_27 ?_
    refine V_putI kk73 (by decide) fl_X5_45 rfl dX5_fit_30 ?_
    refine V_al0n dX5_fit_33 ?_
    refine V_iconst dX5_fit_34 ?_
    refine V_putI kk73 (by decide) fl_X5_48 rfl dX5_fit_35 ?_
    generalize u2 (u2 (u2 f 73 9 (m : Int)) 73 10 (f 55 5)) 73 11 0 = F at *
    refine V_al0n dX5_fit_38 ?_
    refine V_callV (as := []) ml_X5_65 im_X5_strikeOut se_X5_strikeOut kk73 (by decide) (by decide) dX5_fit_39 rfl rfl (by decide) (by decide) (Nat.le_of_ble_eq_true rfl) (by decide) (by decide) rfl (hso) ?_
    rintro r39 ρ39 f39 g39 ⟨rfl, s39_0, s1, s2, s39_1⟩
    obtain rfl := s39_0.symm
    obtain rfl := s39_1.symm
    have hS2 : NSm T f39 φ := hS1.cg (s1 73 4 (by omega)) (s1 73 5 (by omega)) (fun a k z => s1 a k (by omega))
    refine V_al0n dX5_fit_42 ?_
    refine V_il3n dX5_fit_43 ?_
    refine V_callV (as := [_]) ml_X5_68 im_X5_gather se_X5_gather kk73 (by decide) (by decide) dX5_fit_44 rfl rfl (by decide) (by decide) (Nat.le_of_ble_eq_true rfl) (by decide) (by decide) rfl (c_gather (g := g) hρ hk hS2 s2 hm) ?_
    rintro r44 ρ44 f44 g44 ⟨rfl, s44_0, k44, ⟨od, hD⟩, s44_1⟩
    obtain rfl := s44_0.symm
    obtain rfl := s44_1.symm
    refine V_iconst dX5_fit_47 ?_
    refine V_is4 dX5_fit_48 (by decide) rfl ?_
    have ko : ∀ a k, ¬ (a = 73 ∧ 8 ≤ k ∧ k ≤ 11) → ¬ (77 ≤ a ∧ a ≤ 79) → f44 a k = f a k := fun a k z1 z2 => (k44 a k (by omega) (by omega) (by omega)).trans ((s1 a k (by omega)).trans (k1 a k (by omega)))
    have o9 : f44 73 9 = (m : Int) := (k44 73 9 (by omega) (by omega) (by omega)).trans ((s1 73 9 (by omega)).trans k9)
    have o10 : f44 73 10 = f 55 5 := (k44 73 10 (by omega) (by omega) (by omega)).trans ((s1 73 10 (by omega)).trans k10)
    have o11 : f44 73 11 = 0 := (k44 73 11 (by omega) (by omega) (by omega)).trans ((s1 73 11 (by omega)).trans k11)
    have hC2 : CT T b f44 := hC.cg hb (fun a k z1 z2 => ko a k (by omega) (by omega))
    have hG2 : GI T false ra f44 g := hG.cg (fun a k z1 z2 => ko a k (by omega) (by omega)) rfl
    have hE2 : GE T (c0 T ra sk m) f44 := hE.cg (fun k => ko 55 k (by omega) (by omega))
    have kf : ∀ (f' : IT) (g' : JT), FLk b f44 g f' g' → FTk b f g f' g' := fun f' g' z => ⟨fun a k z1 z2 z3 z4 => (z.1 a k z1 z2 (by omega) (by omega)).trans (ko a k z3 (by omega)), z.2⟩
    cases od with
    | false => exact w_fit50 hW hN hsk hm hD hE2 (X := fitT T ra sk m (φ 142) (kB φ)) (fun f' g' a1 a2 a4 a5 a6 => ⟨rfl, rfl, ⟨a5, a6⟩, fin f' g' (kf f' g' a4) ((a4.1 73 9 (by omega) (by omega) (by omega) (by omega)).trans o9) ((a4.1 73 10 (by omega) (by omega) (by omega) (by omega)).trans o10) a5 a6, a1, a2, kf f' g' a4⟩) 1 (by omega) (0, -2, -2, -2, -2) (by simp) f44 g hC2 hG2 FLk.rf ⟨o11, Or.inl rfl⟩ rfl
    | true =>
      have ez : fitT T ra sk m (φ 142) (kB φ) = (0, -2, -2, -2, -2) := by unfold fitT; rw [ftW_no (fun w l => so_odd hN hD w l)]
      have a5 : FE 60 (fitT T ra sk m (φ 142) (kB φ)) f44 := by rw [ez]; exact ⟨o11, Or.inl rfl⟩
      have a6 : (fitT T ra sk m (φ 142) (kB φ)).1 ≤ 2400 := by rw [ez]; simp
      have e8 : f44 73 8 = bz true := hD.2.2.1
      have hfin := fin f44 g (kf f44 g FLk.rf) o9 o10 a5 a6
      refine V_il4 dX5_fit_50 ?_
      refine V_bipush dX5_fit_52 rfl ?_
      refine V_icmp_gt (tgt := 107) dX5_fit_54 rfl (by unfold ri; omega) (by unfold ri; omega) (fun b54 => by exfalso; omega) (fun b54 => ?_)
      refine V_al0n dX5_fit_57 ?_
      refine V_getZ kk73 (by decide) fl_X5_38 e8 dX5_fit_58 ?_
      refine V_if_ne (tgt := 107) dX5_fit_61 rfl (by unfold ri bz; simp) (fun b61 => ?_) (fun b61 => by simp [bz] at b61)
      exact V_return rfl ⟨rfl, rfl, ⟨a5, a6⟩, hfin, hC2, hG2, kf f44 g FLk.rf⟩ dX5_fit_107
  refine Ct.ofV (by decide) rfl (Nat.le_of_ble_eq_true rfl) ?_
  refine V_al0n dX5_fit_0 ?_
  refine V_getI kk73 (by decide) fl_X5_42 rfl dX5_fit_1 ?_
  refine V_il3n dX5_fit_4 ?_
  refine V_icmp_ne (tgt := 20) dX5_fit_5 rfl i1 (by unfold ri; omega) (fun b5 => ?_) (fun b5 => ?_)
  · exact go
  · refine V_al0n dX5_fit_8 ?_
    refine V_getI kk73 (by decide) fl_X5_45 rfl dX5_fit_9 ?_
    refine V_al1n dX5_fit_12 ?_
    refine V_getI kk55 (by decide) fl_X5_60 rfl dX5_fit_13 ?_
    refine V_icmp_ne (tgt := 20) dX5_fit_16 rfl (by unfold ri; omega) (by unfold ri; omega) (fun b16 => ?_) (fun b16 => ?_)
    · exact go
    · exact V_return rfl ⟨rfl, rfl, (i3 (by omega) m (by omega)).2 ra sk hsk hE hG.1 hG.2.1, ⟨i1, i2, i3⟩, hC, hG, fun _ _ _ _ _ _ => rfl, fun _ _ _ _ => rfl⟩ dX5_fit_19
def QF (T : TT) (b : Nat) (n : Int) (φ : IT) (f : IT) (g : JT) (f' : IT) (g' : JT) : Prop := (∃ fl ra, GI T fl ra f' g') ∧ CT T b f' ∧ SpI T f' φ ∧ AG n f f' ∧ (∀ a k, ¬ (55 ≤ a ∧ a ≤ 61) → a ≠ 65 → ¬ (a = 73 ∧ 8 ≤ k ∧ k ≤ 11) → ¬ (77 ≤ a ∧ a ≤ 80) → f' a k = f a k) ∧ ∀ a, a ≠ 60 → a ≠ b + 22 → a ≠ b + 23 → g' a = g a
theorem c_fits {f : IT} {g : JT} (hW : TW T b ρ) (hC : CT T b f) {fl0 ra0 : Bool} (hG : GI T fl0 ra0 f g) (h5 : f 55 5 < 1000000) {sk : Int} {ra : Bool} (hs : f 0 5 = sk) (hsk : 0 ≤ sk ∧ sk ≤ 30) (hr : f 0 6 = bz ra) (hS : NSm T f φ) (hI : SpI T f φ) {m w : Int} (rm : ri m) (rw_ : ri w) :
    C_X11_fits [.ref 0, .int (iz m), .int (iz w)] ρ f g (fun r ρ' f' g' => r = some (.int (iz (aFits T ra sk m w φ))) ∧ ρ' = ρ ∧ QF T b 1 φ f g f' g') := by
  have hk := hW.2.2.2.2.1
  have hρ := hW.1
  have hb := hW.2.1
  refine Ct.ofV (by decide) rfl (Nat.le_of_ble_eq_true rfl) ?_
  unfold aFits
  by_cases c : okM T m = true ∧ (0 ≤ w ∧ w ≤ 4)
  · rw [c.1, show zin w 0 4 = true by unfold zin; simpa using c.2, Bool.and_true, if_pos rfl]
    obtain ⟨mN, rfl, hm⟩ := okM_at c.1
    rw [Int.toNat_natCast]
    refine V_al0n dX11_fits_0 ?_
    refine V_getR kk0 (by decide) fl_X11_29 hW.2.2.1 dX11_fits_1 ?_
    refine V_iconst dX11_fits_4 ?_
    refine V_il1n dX11_fits_5 ?_
    refine V_callV (as := [_, _]) ml_X11_160 im_X7_has se_X7_has (kb_0 hb) (by decide) (kl_0 hb) dX11_fits_6 rfl rfl (by decide) (by decide) (Nat.le_of_ble_eq_true rfl) (by decide) (by decide) rfl (c_hasM hW hC rm) ?_
    refine pq4 ?_
    refine V_bt (tgt := 21) dX11_fits_9 rfl (fun b9 => ?_) (fun b9 => ?_)
    · rw [c.1] at b9; cases b9
    · refine V_il2n dX11_fits_12 ?_
      refine V_if_lt (tgt := 21) dX11_fits_13 rfl rw_ (fun b13 => ?_) (fun b13 => ?_)
      · exfalso; omega
      · refine V_il2n dX11_fits_16 ?_
        refine V_iconst dX11_fits_17 ?_
        refine V_icmp_le (tgt := 23) dX11_fits_18 rfl rw_ (by unfold ri; omega) (fun b18 => ?_) (fun b18 => ?_)
        · refine V_al0n dX11_fits_23 ?_
          refine V_il1n dX11_fits_24 ?_
          refine V_callV (as := [_]) ml_X11_186 im_X11_makeReady se_X11_makeReady kk0 (by decide) (by decide) dX11_fits_25 rfl rfl (by decide) (by decide) (Nat.le_of_ble_eq_true rfl) (by decide) (by decide) rfl (c_makeReady hW hC hG h5 hm hs hsk hr) ?_
          rintro r25 ρ25 f25 g25 ⟨rfl, s25_0, s25_1, q1⟩
          obtain rfl := s25_0.symm
          obtain rfl := s25_1.symm
          have hC2 : CT T b f25 := hC.cg hb (fun a k h1 h2 => q1.1 a k (by omega) (by omega))
          have hS2 : NSm T f25 φ := hS.cg (q1.1 73 4 (by omega) (by omega)) (q1.1 73 5 (by omega) (by omega)) (fun a k z => q1.1 a k (by omega) (by omega))
          have hI2 : SpI T f25 φ := hI.ag q1.ag (fun k => q1.1 73 k (by omega) (by omega)) (fun k => q1.1 80 k (by omega) (by omega))
          have hft := c_fit (ra := ra) (sk := sk) hW hC2 q1.2.1 hsk hm q1.ge hS2 hI2
          refine V_al0n dX11_fits_28 ?_
          refine V_getR kk0 (by decide) fl_X11_100 (fx_0_18 hρ) dX11_fits_29 ?_
          refine V_al0n dX11_fits_32 ?_
          refine V_getR kk0 (by decide) fl_X11_48 (fx_0_7 hρ) dX11_fits_33 ?_
          refine V_al0n dX11_fits_36 ?_
          refine V_getR kk0 (by decide) fl_X11_78 (fx_0_15 hρ) dX11_fits_37 ?_
          refine V_il1n dX11_fits_40 ?_
          refine V_callV (as := [_, _, _]) ml_X11_341 im_X5_fit se_X5_fit kk73 (by decide) (by decide) dX11_fits_41 rfl rfl (by decide) (by decide) (Nat.le_of_ble_eq_true rfl) (by decide) (by decide) rfl (hft) ?_
          rintro r41 ρ41 f41 g41 ⟨rfl, s41_0, ⟨p1, p0⟩, p2, p3, p4, p5⟩
          obtain rfl := s41_0.symm
          refine V_al0n dX11_fits_44 ?_
          refine V_getR kk0 (by decide) fl_X11_100 (fx_0_18 hρ) dX11_fits_45 ?_
          refine V_il2n dX11_fits_48 ?_
          refine V_callV (as := [_]) ml_X11_345 im_X5_tells se_X5_tells kk73 (by decide) (by decide) dX11_fits_49 rfl rfl (by decide) (by decide) (Nat.le_of_ble_eq_true rfl) (by decide) (by decide) rfl (c_tells hρ p1 (by omega) c.2) ?_
          refine pq4 ?_
          exact V_ireturn rfl ⟨rfl, rfl, ⟨false, ra, p4⟩, p3, p2, (q1.ag.tr (AG.sm (fun k => p5.1 55 k (by omega) (by omega) (by omega) (by omega)))).wk (by omega), fun a k z1 z2 z3 z4 => (p5.1 a k (by omega) z2 z3 z4).trans (q1.1 a k (by omega) (by omega)), p5.2⟩ dX11_fits_52
        · exfalso; omega
  · rw [if_neg (fun z => c ?_)]
    · refine V_al0n dX11_fits_0 ?_
      refine V_getR kk0 (by decide) fl_X11_29 hW.2.2.1 dX11_fits_1 ?_
      refine V_iconst dX11_fits_4 ?_
      refine V_il1n dX11_fits_5 ?_
      refine V_callV (as := [_, _]) ml_X11_160 im_X7_has se_X7_has (kb_0 hb) (by decide) (kl_0 hb) dX11_fits_6 rfl rfl (by decide) (by decide) (Nat.le_of_ble_eq_true rfl) (by decide) (by decide) rfl (c_hasM hW hC rm) ?_
      refine pq4 ?_
      refine V_bt (tgt := 21) dX11_fits_9 rfl (fun b9 => ?_) (fun b9 => ?_)
      · refine V_iconst dX11_fits_21 ?_
        exact V_ireturn rfl ⟨rfl, rfl, ⟨fl0, ra0, hG⟩, hC, hI, AG.rf.wk (by omega), fun _ _ _ _ _ _ => rfl, fun _ _ _ _ => rfl⟩ dX11_fits_22
      · refine V_il2n dX11_fits_12 ?_
        refine V_if_lt (tgt := 21) dX11_fits_13 rfl rw_ (fun b13 => ?_) (fun b13 => ?_)
        · refine V_iconst dX11_fits_21 ?_
          exact V_ireturn rfl ⟨rfl, rfl, ⟨fl0, ra0, hG⟩, hC, hI, AG.rf.wk (by omega), fun _ _ _ _ _ _ => rfl, fun _ _ _ _ => rfl⟩ dX11_fits_22
        · refine V_il2n dX11_fits_16 ?_
          refine V_iconst dX11_fits_17 ?_
          refine V_icmp_le (tgt := 23) dX11_fits_18 rfl rw_ (by unfold ri; omega) (fun b18 => ?_) (fun b18 => ?_)
          · exact absurd ⟨b9, by omega⟩ c
          · refine V_iconst dX11_fits_21 ?_
            exact V_ireturn rfl ⟨rfl, rfl, ⟨fl0, ra0, hG⟩, hC, hI, AG.rf.wk (by omega), fun _ _ _ _ _ _ => rfl, fun _ _ _ _ => rfl⟩ dX11_fits_22
    · rw [Bool.and_eq_true] at z
      exact ⟨z.1, by have := z.2; unfold zin at this; simpa using this⟩
end CFITS

