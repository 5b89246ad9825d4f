abbrev V_X8_trainD (d : Nat) (Q : QT) (pc : Nat) (L st : List Value) (ρ : RT) (f : IT) (g : JT) : Prop := V yX8_train cX8_train 11 none d 0 0 false Q NF NF 0 0 pc L st ρ f g
abbrev C_X8_trainD (d : Nat) (as : List Value) (ρ : RT) (f : IT) (g : JT) (Q : QT) : Prop := Ct yX8_train cX8_train 11 none d 0 0 NF NF as ρ f g Q
abbrev V_X8_seekD (Q : QT) (pc : Nat) (L st : List Value) (ρ : RT) (f : IT) (g : JT) : Prop := V yX8_seek cX8_seek 5 none 9 0 0 false Q NF NF 0 0 pc L st ρ f g
abbrev C_X8_seekD (as : List Value) (ρ : RT) (f : IT) (g : JT) (Q : QT) : Prop := Ct yX8_seek cX8_seek 5 none 9 0 0 NF NF as ρ f g Q
abbrev V_X11_trainedD (Q : QT) (pc : Nat) (L st : List Value) (ρ : RT) (f : IT) (g : JT) : Prop := V yX11_trained cX11_trained 5 (some .int) 10 0 0 false Q NF NF 0 0 pc L st ρ f g
abbrev C_X11_trainedD (as : List Value) (ρ : RT) (f : IT) (g : JT) (Q : QT) : Prop := Ct yX11_trained cX11_trained 5 (some .int) 10 0 0 NF NF as ρ f g Q
section CTRAIN2
variable {T : TT} {b : Nat} {ρ : RT}
/-- what training keeps to -/
def TrH (wt mo : Int) (n : Nat) (f : IT) : Prop := f 72 0 = wt ∧ f 72 1 = (n : Int) ∧ f 72 2 = mo
def TrC (T : TT) (b : Nat) (ρ : RT) (wt mo : Int) (n r i : Nat) : Prop := ∀ (s : TS) (B : Int × Int × Int) (f : IT) (g : JT), CT T b f → TrH wt mo n f → TSR i s → s.2.2.1 ≤ mo → TrE B f → C_X8_trainD (r + 2) [.ref 72, .ref (b + 17), .int (iz (i : Int)), .int (iz s.1), .int (iz s.2.1), .int (iz s.2.2.1), .int (iz s.2.2.2)] ρ f g (fun r_ ρ' f' g' => r_ = none ∧ ρ' = ρ ∧ TrE (trR T wt mo r i s B) f' ∧ TrK b f g f' g')
/-- the loads from one on -/
def trL (T : TT) (wt mo : Int) (r i : Nat) (s : TS) : Nat → Nat → Int × Int × Int → Int × Int × Int
  | 0, _, B => B
  | k + 1, ld, B => trL T wt mo r i s k (ld + 1) (trR T wt mo r (i + 1) (wkS T wt i (ld : Int) s) B)
theorem trL_4 {wt mo : Int} {r i : Nat} {s : TS} {B : Int × Int × Int} : trL T wt mo r i s 4 0 B = trR T wt mo (r + 1) i s B := rfl
theorem w_train24 (hρ : Fx ρ) (hb : b = 5 ∨ b = 30) (hk : TOK T) (hP : TPF T) {wt mo : Int} (hwt : 1 ≤ wt ∧ wt ≤ 30) (hmo : 0 ≤ mo ∧ mo ≤ 999) {n r i : Nat} (hn : n ≤ 6) (hri : r + 1 + i = n) (hrec : TrC T b ρ wt mo n r (i + 1)) {s : TS} (hs : TSR i s) (hh : s.2.2.1 ≤ mo) {Q : QT} {f0 : IT} {g0 : JT} {R : Int × Int × Int}
    (hQ : ∀ (f : IT) (g : JT), TrE R f → TrK b f0 g0 f g → Q none ρ f g)
    (k ld : Nat) (hkl : k + ld = 4) (B : Int × Int × Int) (f : IT) (g : JT) (hC : CT T b f) (hH : TrH wt mo n f) (hB : TrE B f) (hK : TrK b f0 g0 f g) (hR : trL T wt mo r i s k ld B = R) :
    V_X8_trainD (r + 1 + 2) Q 24 [.ref 72, .ref (b + 17), .int (iz (i : Int)), .int (iz s.1), .int (iz s.2.1), .int (iz s.2.2.1), .int (iz s.2.2.2), .int (iz (ld : Int)), .null, .null, .null] [] ρ f g := by
  obtain ⟨h0, h1, h2⟩ := hH
  have hs0 := hs
  obtain ⟨q1, q2, q3, q4⟩ := hs
  cases k with
  | zero =>
    simp only [trL] at hR
    subst hR
    refine V_il7 dX8_train_24 ?_
    refine V_iconst dX8_train_26 ?_
    refine V_icmp_gt (tgt := 131) dX8_train_27 rfl (by unfold ri; omega) (by unfold ri; omega) (fun b27 => ?_) (fun b27 => ?_)
    · exact V_return rfl (hQ f g hB hK) dX8_train_131
    · exfalso; omega
  | succ k' =>
    rw [trL] at hR
    have nb : ∀ k, inB (tnm wt (i : Int) (ld : Int) s.1 s.2.1 k) := fun k => by
      unfold tnm inB
      split <;> omega
    have r3 := bl_rng (T := T) (nm := tnm wt i ld s.1 s.2.1) (w := 3) (wo := 0) (lo := -20) (hi := 20) (by omega) (by omega)
    have r4 := bl_rng (T := T) (nm := tnm wt i ld s.1 s.2.1) (w := 4) (wo := 0) (lo := -20) (hi := 20) (by omega) (by omega)
    have r5 := bl_rng (T := T) (nm := tnm wt i ld s.1 s.2.1) (w := 5) (wo := 0) (lo := 0) (hi := 99) (by omega) (by omega)
    have hs1 := wkS_rng (T := T) (wt := wt) (i := i) (ld := (ld : Int)) (by omega) hs0
    have hpw : (2 : Nat) ^ (2 * i) ≤ 1024 := by
      have : (2 : Nat) ^ (2 * i) ≤ 2 ^ 10 := Nat.pow_le_pow_right (by omega) (by omega)
      omega
    obtain ⟨L, eL⟩ : ∃ L : Nat, s.2.2.2 = L := ⟨s.2.2.2.toNat, by omega⟩
    have hL : L < 2 ^ (2 * i) := by
      have := q4.2
      rw [eL] at this
      have e2 : (2 : Int) ^ (2 * i) = ((2 ^ (2 * i) : Nat) : Int) := by simp
      rw [e2] at this
      omega
    have hdp : ld * 2 ^ (2 * i) ≤ 3 * 1024 := Nat.mul_le_mul (by omega) hpw
    have nx : ∀ (B' : Int × Int × Int) (f' : IT) (g' : JT), TrE B' f' → TrK b f0 g0 f' g' → trL T wt mo r i s k' (ld + 1) B' = R → V_X8_trainD (r + 1 + 2) Q 24 [.ref 72, .ref (b + 17), .int (iz (i : Int)), .int (iz s.1), .int (iz s.2.1), .int (iz s.2.2.1), .int (iz s.2.2.2), .int (iz ((ld : Int) + 1)), .null, .null, .null] [] ρ f' g' := fun B' f' g' a1 a2 a3 => by
      have fe : ∀ a k, ¬ (a = 72 ∧ 3 ≤ k) → f' a k = f a k := fun a k z => (a2.1 a k z).trans (hK.1 a k z).symm
      exact w_train24 hρ hb hk hP hwt hmo hn hri hrec hs0 hh hQ k' (ld + 1) (by omega) B' f' g' (hC.cg hb (fun a k z1 z2 => fe a k (by omega))) ⟨(fe 72 0 (by omega)).trans h0, (fe 72 1 (by omega)).trans h1, (fe 72 2 (by omega)).trans h2⟩ a1 a2 a3
    refine V_il7 dX8_train_24 ?_
    refine V_iconst dX8_train_26 ?_
    refine V_icmp_gt (tgt := 131) dX8_train_27 rfl (by unfold ri; omega) (by unfold ri; omega) (fun b27 => ?_) (fun b27 => ?_)
    · exfalso; omega
    · refine V_al0n dX8_train_30 ?_
      refine V_al1n dX8_train_31 ?_
      refine V_getR (kb_17 hb) (kl_17 hb) fl_X8_42 (fb_17_6 hρ hb) dX8_train_32 ?_
      refine V_il2n dX8_train_35 ?_
      refine V_il7 dX8_train_36 ?_
      refine V_il3n dX8_train_38 ?_
      refine V_il4 dX8_train_39 ?_
      refine V_callV (as := [_, _, _, _, _]) ml_X8_48 im_X8_give se_X8_give kk72 (by decide) (by decide) dX8_train_41 rfl rfl (by omega) (by decide) (Nat.le_of_ble_eq_true rfl) (by decide) (by decide) rfl (c_tgive hb h0 (by unfold ri; omega) (by unfold ri; omega) (by unfold ri; omega) (by unfold ri; omega) (by unfold ri; omega)) ?_
      rintro r41 ρ41 f41 g41 ⟨rfl, s41_0, s41_1, v1⟩
      obtain rfl := s41_0.symm
      obtain rfl := s41_1.symm
      have n1 : ∀ k, k < 8 → g41 (b + 23) k = tnm wt (i : Int) (ld : Int) s.1 s.2.1 k ∧ inB (tnm wt (i : Int) (ld : Int) s.1 s.2.1 k) := fun k hk => ⟨v1.1 k hk, nb k⟩
      refine V_il5 dX8_train_44 ?_
      refine V_al1n dX8_train_46 ?_
      refine V_iconst dX8_train_47 ?_
      refine V_iconst dX8_train_48 ?_
      refine V_bipush dX8_train_49 rfl ?_
      refine V_iconst dX8_train_51 ?_
      refine V_callV (as := [_, _, _, _]) ml_X8_52 im_X1_within se_X1_within (kb_17 hb) (by decide) (kl_17 hb) dX8_train_52 rfl rfl (by omega) (by decide) (Nat.le_of_ble_eq_true rfl) (by decide) (by decide) rfl (c_within hρ hb hC hk hP (w := 5) (by omega) n1 (by unfold ri; omega) (by unfold ri; omega) (by unfold ri; omega)) ?_
      rintro r52 ρ52 f52 g52 ⟨rfl, s52_0, s52_1, k52⟩
      obtain rfl := s52_0.symm
      obtain rfl := s52_1.symm
      have n2 : ∀ k, k < 8 → g52 (b + 23) k = tnm wt (i : Int) (ld : Int) s.1 s.2.1 k ∧ inB (tnm wt (i : Int) (ld : Int) s.1 s.2.1 k) := fun k hk => by rw [k52 (b + 23) (by omega)]; exact n1 k hk
      refine V_iadd dX8_train_55 ?_
      refine V_is8 dX8_train_56 (by decide) rfl ?_
      refine V_il8 dX8_train_58 ?_
      refine V_al0n dX8_train_60 ?_
      refine V_getI kk72 (by decide) fl_X8_18 h2 dX8_train_61 ?_
      refine V_icmp_gt (tgt := 125) dX8_train_64 rfl (by unfold ri; omega) (by unfold ri; omega) (fun b64 => ?_) (fun b64 => ?_)
      · refine V_inc7 dX8_train_125 (by decide) rfl ?_
        refine V_goto (tgt := 24) dX8_train_128 rfl ?_
        exact V_weak (by repeat (first | exact wk_n | refine wk_c (Or.inr rfl) ?_ | refine wk_c (Or.inl rfl) ?_)) (nx B f g52 hB (hK.tr ⟨fun _ _ _ => rfl, fun a z1 z2 => (k52 a z1).trans (v1.2 a z2)⟩) (by rw [← hR, trR_out r (i + 1) _ _ (by simp only [wkS]; omega)]))
      · refine V_il3n dX8_train_67 ?_
        refine V_al1n dX8_train_68 ?_
        refine V_iconst dX8_train_69 ?_
        refine V_bipush dX8_train_70 rfl ?_
        refine V_bipush dX8_train_72 rfl ?_
        refine V_iconst dX8_train_74 ?_
        refine V_callV (as := [_, _, _, _]) ml_X8_52 im_X1_within se_X1_within (kb_17 hb) (by decide) (kl_17 hb) dX8_train_75 rfl rfl (by omega) (by decide) (Nat.le_of_ble_eq_true rfl) (by decide) (by decide) rfl (c_within hρ hb hC hk hP (w := 3) (by omega) n2 (by unfold ri; omega) (by unfold ri; omega) (by unfold ri; omega)) ?_
        rintro r75 ρ75 f75 g75 ⟨rfl, s75_0, s75_1, k75⟩
        obtain rfl := s75_0.symm
        obtain rfl := s75_1.symm
        have n3 : ∀ k, k < 8 → g75 (b + 23) k = tnm wt (i : Int) (ld : Int) s.1 s.2.1 k ∧ inB (tnm wt (i : Int) (ld : Int) s.1 s.2.1 k) := fun k hk => by rw [k75 (b + 23) (by omega)]; exact n2 k hk
        refine V_iadd dX8_train_78 ?_
        refine V_callS (as := [_]) ml_X8_56 sm_X8_bounded dX8_train_79 rfl rfl (by omega) (by decide) (Nat.le_of_ble_eq_true rfl) (by decide) (by decide) rfl (c_tbounded (by unfold ri; omega)) ?_
        refine pq4 ?_
        refine V_is9 dX8_train_82 (by decide) rfl ?_
        refine V_il4 dX8_train_84 ?_
        refine V_al1n dX8_train_86 ?_
        refine V_iconst dX8_train_87 ?_
        refine V_bipush dX8_train_88 rfl ?_
        refine V_bipush dX8_train_90 rfl ?_
        refine V_iconst dX8_train_92 ?_
        refine V_callV (as := [_, _, _, _]) ml_X8_52 im_X1_within se_X1_within (kb_17 hb) (by decide) (kl_17 hb) dX8_train_93 rfl rfl (by omega) (by decide) (Nat.le_of_ble_eq_true rfl) (by decide) (by decide) rfl (c_within hρ hb hC hk hP (w := 4) (by omega) n3 (by unfold ri; omega) (by unfold ri; omega) (by unfold ri; omega)) ?_
        rintro r93 ρ93 f93 g93 ⟨rfl, s93_0, s93_1, k93⟩
        obtain rfl := s93_0.symm
        obtain rfl := s93_1.symm
        refine V_iadd dX8_train_96 ?_
        refine V_callS (as := [_]) ml_X8_56 sm_X8_bounded dX8_train_97 rfl rfl (by omega) (by decide) (Nat.le_of_ble_eq_true rfl) (by decide) (by decide) rfl (c_tbounded (by unfold ri; omega)) ?_
        refine pq4 ?_
        refine V_is10 dX8_train_100 (by decide) rfl ?_
        refine V_al0n dX8_train_102 ?_
        refine V_al1n dX8_train_103 ?_
        refine V_il2n dX8_train_104 ?_
        refine V_iconst dX8_train_105 ?_
        refine V_iadd dX8_train_106 ?_
        refine V_il9 dX8_train_107 ?_
        refine V_il10 dX8_train_109 ?_
        refine V_il8 dX8_train_111 ?_
        refine V_il6 dX8_train_113 ?_
        refine V_il7 dX8_train_115 ?_
        refine V_iconst dX8_train_117 ?_
        refine V_il2n dX8_train_118 ?_
        refine V_imul dX8_train_119 ?_
        refine V_ishl dX8_train_120 (iz_shlE (b := 2 * i) (v := (ld : Int) * 2 ^ (2 * i)) (by omega) (by omega) rfl) ?_
        refine V_ior dX8_train_121 (show iz s.2.2.2 ||| iz ((ld : Int) * 2 ^ (2 * i)) = iz (s.2.2.2 + (ld : Int) * 2 ^ (2 * i)) by rw [eL]; exact iz_orS hL (by omega)) ?_
        refine V_callV (as := [_, _, _, _, _, _]) ml_X8_34 im_X8_train se_X8_train kk72 (by decide) (by decide) dX8_train_122 rfl rfl (by omega) (by decide) (Nat.le_of_ble_eq_true rfl) (by decide) (by decide) rfl (hrec (wkS T wt i (ld : Int) s) B f g93 hC ⟨h0, h1, h2⟩ hs1 (by simp only [wkS]; omega) hB) ?_
        rintro r122 ρ122 f122 g122 ⟨rfl, s122_0, e122, k122⟩
        obtain rfl := s122_0.symm
        refine V_inc7 dX8_train_125 (by decide) rfl ?_
        refine V_goto (tgt := 24) dX8_train_128 rfl ?_
        exact V_weak (by repeat (first | exact wk_n | refine wk_c (Or.inr rfl) ?_ | refine wk_c (Or.inl rfl) ?_)) (nx _ f122 g122 e122 (hK.tr (TrK.tr ⟨fun _ _ _ => rfl, fun a z1 z2 => ((k93 a z1).trans ((k75 a z1).trans (k52 a z1))).trans (v1.2 a z2)⟩ k122)) hR)
termination_by k
theorem c_train (hρ : Fx ρ) (hb : b = 5 ∨ b = 30) (hk : TOK T) (hP : TPF T) {wt mo : Int} (hwt : 1 ≤ wt ∧ wt ≤ 30) (hmo : 0 ≤ mo ∧ mo ≤ 999) {n : Nat} (hn : n ≤ 6) : ∀ (r i : Nat), r + i = n → TrC T b ρ wt mo n r i
  | 0, i, hri => fun s B f g hC hH hs hh hB => by
    obtain ⟨h0, h1, h2⟩ := hH
    have hw := c_weigh (ρ := ρ) (f := f) (g := g) (b := b) hmo (by omega) hs hh hB
    refine Ct.ofV (by decide) rfl (Nat.le_of_ble_eq_true rfl) ?_
    refine V_il2n dX8_train_0 ?_
    refine V_al0n dX8_train_1 ?_
    refine V_getI kk72 (by decide) fl_X8_15 h1 dX8_train_2 ?_
    refine V_icmp_lt (tgt := 21) dX8_train_5 rfl (by unfold ri; omega) (by unfold ri; omega) (fun b5 => ?_) (fun b5 => ?_)
    · exfalso; omega
    · refine V_al0n dX8_train_8 ?_
      refine V_il3n dX8_train_9 ?_
      refine V_il4 dX8_train_10 ?_
      refine V_isub dX8_train_12 ?_
      refine V_il5 dX8_train_13 ?_
      refine V_il6 dX8_train_15 ?_
      refine V_callV (as := [_, _, _]) ml_X8_38 im_X8_weigh se_X8_weigh kk72 (by decide) (by decide) dX8_train_17 rfl rfl (by decide) (by decide) (Nat.le_of_ble_eq_true rfl) (by decide) (by decide) rfl (hw) ?_
      rintro r17 ρ17 f17 g17 ⟨rfl, s17_0, e1, k1⟩
      obtain rfl := s17_0.symm
      exact V_return rfl ⟨rfl, rfl, e1, k1⟩ dX8_train_20
  | r + 1, i, hri => fun s B f g hC hH hs hh hB => by
    have hH0 := hH
    obtain ⟨h0, h1, h2⟩ := hH
    have hrec := c_train hρ hb hk hP hwt hmo hn r (i + 1) (by omega)
    have hg := w_train24 hρ hb hk hP hwt hmo hn hri hrec hs hh (Q := fun r_ ρ' f' g' => r_ = none ∧ ρ' = ρ ∧ TrE (trR T wt mo (r + 1) i s B) f' ∧ TrK b f g f' g') (f0 := f) (g0 := g) (R := trR T wt mo (r + 1) i s B) (fun f' g' a1 a2 => ⟨rfl, rfl, a1, a2⟩) 4 0 (by omega) B f g hC hH0 hB TrK.rf trL_4
    refine Ct.ofV (by decide) rfl (Nat.le_of_ble_eq_true rfl) ?_
    refine V_il2n dX8_train_0 ?_
    refine V_al0n dX8_train_1 ?_
    refine V_getI kk72 (by decide) fl_X8_15 h1 dX8_train_2 ?_
    refine V_icmp_lt (tgt := 21) dX8_train_5 rfl (by unfold ri; omega) (by unfold ri; omega) (fun b5 => ?_) (fun b5 => ?_)
    · refine V_iconst dX8_train_21 ?_
      refine V_is7 dX8_train_22 (by decide) rfl ?_
      exact hg
    · exfalso; omega
/-- what training keeps between calls -/
def TrI (T : TT) (f : IT) : Prop := ri (f 72 0) ∧ ri (f 72 1) ∧ ri (f 72 2) ∧ ∀ n : Nat, 1 ≤ f 72 0 → f 72 1 = (n : Int) → TrE (trT T (f 72 0) (f 72 2) n) f
variable {f : IT} {g : JT}
theorem c_tseek (hρ : Fx ρ) (hb : b = 5 ∨ b = 30) (hk : TOK T) (hP : TPF T) (hC : CT T b f) (hI : TrI T f) {wt mo : Int} (hwt : 1 ≤ wt ∧ wt ≤ 30) (hmo : 0 ≤ mo ∧ mo ≤ 999) {n : Nat} (hn : n ≤ 6) :
    C_X8_seekD [.ref 72, .ref (b + 17), .int (iz wt), .int (iz (n : Int)), .int (iz mo)] ρ f g (fun r ρ' f' g' => r = none ∧ ρ' = ρ ∧ TrE (trT T wt mo n) f' ∧ TrI T f' ∧ (∀ a k, a ≠ 72 → f' a k = f a k) ∧ ∀ a, a ≠ b + 22 → a ≠ b + 23 → g' a = g a) := by
  obtain ⟨i0, i1, i2, i3⟩ := hI
  have hcg : ∀ f' : IT, (∀ a k, a ≠ 72 → f' a k = f a k) → CT T b f' := fun f' h => hC.cg hb (fun a k z1 z2 => h a k (by omega))
  have htr := fun (f' : IT) (h : ∀ a k, a ≠ 72 → f' a k = f a k) (hH : TrH wt mo n f') (hB : TrE (-99, -1, -1) f') => c_train hρ hb hk hP hwt hmo hn n 0 (by omega) (0, 0, 0, 0) (-99, -1, -1) f' g (hcg f' h) hH (by unfold TSR; simp) hmo.1 hB
  rw [← trT_R] at htr
  have go : ∀ Q' : QT, (∀ r ρ' f' g', (r = none ∧ ρ' = ρ ∧ TrE (trT T wt mo n) f' ∧ TrI T f' ∧ (∀ a k, a ≠ 72 → f' a k = f a k) ∧ ∀ a, a ≠ b + 22 → a ≠ b + 23 → g' a = g a) → Q' r ρ' f' g') → V_X8_seekD Q' 26 [.ref 72, .ref (b + 17), .int (iz wt), .int (iz (n : Int)), .int (iz mo)] [] ρ f g := fun Q' hQ' => by
    have hF : ∀ a k, a ≠ 72 → (u2 (u2 (u2 (u2 f 72 0 wt) 72 1 (n : Int)) 72 2 mo) 72 3 0) a k = f a k := fun a k z => by rw [u2_o (by omega), u2_o (by omega), u2_o (by omega), u2_o (by omega)]
    have hcall := htr _ hF ⟨by simp [u2], by simp [u2], by simp [u2]⟩ ⟨by simp only; omega, Or.inl ⟨by simp [u2], rfl⟩⟩
    refine V_al0n dX8_seek_26 ?_
    refine V_il2n dX8_seek_27 ?_
    refine V_putI kk72 (by decide) fl_X8_9 rfl dX8_seek_28 ?_
    refine V_al0n dX8_seek_31 ?_
    refine V_il3n dX8_seek_32 ?_
    refine V_putI kk72 (by decide) fl_X8_15 rfl dX8_seek_33 ?_
    refine V_al0n dX8_seek_36 ?_
    refine V_il4 dX8_seek_37 ?_
    refine V_putI kk72 (by decide) fl_X8_18 rfl dX8_seek_39 ?_
    refine V_al0n dX8_seek_42 ?_
    refine V_iconst dX8_seek_43 ?_
    refine V_putZ kk72 (by decide) fl_X8_21 rfl (by first | exact Or.inl rfl | exact Or.inr rfl | (unfold bz; split <;> simp)) dX8_seek_44 ?_
    refine V_al0n dX8_seek_47 ?_
    refine V_al1n dX8_seek_48 ?_
    refine V_iconst dX8_seek_49 ?_
    refine V_iconst dX8_seek_50 ?_
    refine V_iconst dX8_seek_51 ?_
    refine V_iconst dX8_seek_52 ?_
    refine V_iconst dX8_seek_53 ?_
    refine V_callV (as := [_, _, _, _, _, _]) ml_X8_34 im_X8_train se_X8_train kk72 (by decide) (by decide) dX8_seek_54 rfl rfl (by omega) (by decide) (Nat.le_of_ble_eq_true rfl) (by decide) (by decide) rfl (hcall) ?_
    rintro r54 ρ54 f54 g54 ⟨rfl, s54_0, e1, k1⟩
    obtain rfl := s54_0.symm
    exact V_return rfl (hQ' _ _ _ _ ⟨rfl, rfl, e1, (by
  have z0 : f54 72 0 = wt := (k1.1 72 0 (by omega)).trans (by simp [u2])
  have z1 : f54 72 1 = (n : Int) := (k1.1 72 1 (by omega)).trans (by simp [u2])
  have z2 : f54 72 2 = mo := (k1.1 72 2 (by omega)).trans (by simp [u2])
  unfold TrI
  rw [z0, z1, z2]
  refine ⟨by unfold ri; omega, by unfold ri; omega, by unfold ri; omega, fun n' _ hn' => ?_⟩
  rw [show n' = n by omega]
  exact e1), fun a k z => (k1.1 a k (by omega)).trans (hF a k z), k1.2⟩) dX8_seek_57
  have hit : f 72 0 = wt → f 72 1 = (n : Int) → f 72 2 = mo → TrE (trT T wt mo n) f := fun e0 e1 e2 => by
    have := i3 n (by omega) e1
    rw [e0, e2] at this
    exact this
  refine Ct.ofV (by decide) rfl (Nat.le_of_ble_eq_true rfl) ?_
  refine V_al0n dX8_seek_0 ?_
  refine V_getI kk72 (by decide) fl_X8_9 rfl dX8_seek_1 ?_
  refine V_il2n dX8_seek_4 ?_
  refine V_icmp_ne (tgt := 26) dX8_seek_5 rfl i0 (by unfold ri; omega) (fun b5 => ?_) (fun b5 => ?_)
  · exact go _ (fun r ρ' f' g' h => h)
  · refine V_al0n dX8_seek_8 ?_
    refine V_getI kk72 (by decide) fl_X8_15 rfl dX8_seek_9 ?_
    refine V_il3n dX8_seek_12 ?_
    refine V_icmp_ne (tgt := 26) dX8_seek_13 rfl i1 (by unfold ri; omega) (fun b13 => ?_) (fun b13 => ?_)
    · exact go _ (fun r ρ' f' g' h => h)
    · refine V_al0n dX8_seek_16 ?_
      refine V_getI kk72 (by decide) fl_X8_18 rfl dX8_seek_17 ?_
      refine V_il4 dX8_seek_20 ?_
      refine V_icmp_ne (tgt := 26) dX8_seek_22 rfl i2 (by unfold ri; omega) (fun b22 => ?_) (fun b22 => ?_)
      · exact go _ (fun r ρ' f' g' h => h)
      · exact V_return rfl ⟨rfl, rfl, hit (by omega) (by omega) (by omega), ⟨i0, i1, i2, i3⟩, fun _ _ _ => rfl, fun _ _ _ => rfl⟩ dX8_seek_25
theorem c_trained (hW : TW T b ρ) (hC : CT T b f) (hI : TrI T f) {m n mo w : Int} (rm : ri m) (rn_ : ri n) (ro : ri mo) (rw_ : ri w) :
    C_X11_trainedD [.ref 0, .int (iz m), .int (iz n), .int (iz mo), .int (iz w)] ρ f g (fun r ρ' f' g' => r = some (.int (iz (aTrained T m n mo w))) ∧ ρ' = ρ ∧ TrI T f' ∧ (∀ a k, a ≠ 72 → f' a k = f a k) ∧ ∀ a, a ≠ b + 22 → a ≠ b + 23 → g' a = g a) := by
  have hk := hW.2.2.2.2.1
  have hρ := hW.1
  have hb := hW.2.1
  have h5' := hk.me
  refine Ct.ofV (by decide) rfl (Nat.le_of_ble_eq_true rfl) ?_
  by_cases c : okM T m = true ∧ (1 ≤ n ∧ n ≤ 6) ∧ (0 ≤ mo ∧ mo ≤ 999) ∧ (0 ≤ w ∧ w ≤ 2)
  · obtain ⟨c1, c2, c3, c4⟩ := c
    obtain ⟨mN, rfl, hm⟩ := okM_at c1
    obtain ⟨nN, rfl⟩ : ∃ k : Nat, n = k := ⟨n.toNat, by omega⟩
    have hma := hk.man hm
    have t := tat1 hk (j := 2) hm (by omega)
    simp [tcl] at t
    have hat := c_at (f := f) (g := g) hW.1 hW.2.1 hC hk (i := 1) (by omega) (k := (mN : Int)) (j := 2) (by unfold ri; omega) (by unfold ri; omega)
    rw [t] at hat
    have ea : aTrained T (mN : Int) (nN : Int) mo w = (if w = 0 then (trT T (T 115 mN) mo nN).1 else if w = 1 then (trT T (T 115 mN) mo nN).2.1 else (trT T (T 115 mN) mo nN).2.2) := by
      unfold aTrained
      rw [c1, show zin (nN : Int) 1 6 = true by unfold zin; simpa using c2, show zin mo 0 999 = true by unfold zin; simpa using c3, show zin w 0 2 = true by unfold zin; simpa using c4, Bool.and_true, Bool.and_true, Bool.and_true, if_pos rfl, Int.toNat_natCast, Int.toNat_natCast]
    have hsk := c_tseek (g := g) hρ hb hk hW.2.2.2.2.2 hC hI (wt := T 115 mN) (mo := mo) (by omega) c3 (n := nN) (by omega)
    rw [ea]
    generalize trT T (T 115 mN) mo nN = R at *
    refine V_al0n dX11_trained_0 ?_
    refine V_getR kk0 (by decide) fl_X11_29 hW.2.2.1 dX11_trained_1 ?_
    refine V_iconst dX11_trained_4 ?_
    refine V_il1n dX11_trained_5 ?_
    refine V_callV (as := [_, _]) ml_X11_160 im_X7_has se_X7_has (kb_0 hb) (by decide) (kl_0 hb) dX11_trained_6 rfl rfl (by decide) (by decide) (Nat.le_of_ble_eq_true rfl) (by decide) (by decide) rfl (c_hasM hW hC rm) ?_
    refine pq4 ?_
    refine V_bt (tgt := 45) dX11_trained_9 rfl (fun b9 => ?_) (fun b9 => ?_)
    · rw [c1] at b9; cases b9
    · refine V_il2n dX11_trained_12 ?_
      refine V_iconst dX11_trained_13 ?_
      refine V_icmp_lt (tgt := 45) dX11_trained_14 rfl rn_ (by unfold ri; omega) (fun b14 => ?_) (fun b14 => ?_)
      · exfalso; omega
      · refine V_il2n dX11_trained_17 ?_
        refine V_bipush dX11_trained_18 rfl ?_
        refine V_icmp_gt (tgt := 45) dX11_trained_20 rfl rn_ (by unfold ri; omega) (fun b20 => ?_) (fun b20 => ?_)
        · exfalso; omega
        · refine V_il3n dX11_trained_23 ?_
          refine V_if_lt (tgt := 45) dX11_trained_24 rfl ro (fun b24 => ?_) (fun b24 => ?_)
          · exfalso; omega
          · refine V_il3n dX11_trained_27 ?_
            refine V_sipush dX11_trained_28 rfl ?_
            refine V_icmp_gt (tgt := 45) dX11_trained_31 rfl ro (by unfold ri; omega) (fun b31 => ?_) (fun b31 => ?_)
            · exfalso; omega
            · refine V_il4 dX11_trained_34 ?_
              refine V_if_lt (tgt := 45) dX11_trained_36 rfl rw_ (fun b36 => ?_) (fun b36 => ?_)
              · exfalso; omega
              · refine V_il4 dX11_trained_39 ?_
                refine V_iconst dX11_trained_41 ?_
                refine V_icmp_le (tgt := 49) dX11_trained_42 rfl rw_ (by unfold ri; omega) (fun b42 => ?_) (fun b42 => ?_)
                · refine V_al0n dX11_trained_49 ?_
                  refine V_getR kk0 (by decide) fl_X11_93 (fx_0_17 hρ) dX11_trained_50 ?_
                  refine V_al0n dX11_trained_53 ?_
                  refine V_getR kk0 (by decide) fl_X11_29 hW.2.2.1 dX11_trained_54 ?_
                  refine V_getR (kb_0 hb) (kl_0 hb) fl_X11_193 (fb_0_1 hρ hb) dX11_trained_57 ?_
                  refine V_al0n dX11_trained_60 ?_
                  refine V_getR kk0 (by decide) fl_X11_29 hW.2.2.1 dX11_trained_61 ?_
                  refine V_iconst dX11_trained_64 ?_
                  refine V_il1n dX11_trained_65 ?_
                  refine V_iconst dX11_trained_66 ?_
                  refine V_callV (as := [_, _, _]) ml_X11_176 im_X7_at se_X7_at (kb_0 hb) (by decide) (kl_0 hb) dX11_trained_67 rfl rfl (by decide) (by decide) (Nat.le_of_ble_eq_true rfl) (by decide) (by decide) rfl (hat) ?_
                  refine pq4 ?_
                  refine V_il2n dX11_trained_70 ?_
                  refine V_il3n dX11_trained_71 ?_
                  refine V_callV (as := [_, _, _, _]) ml_X11_317 im_X8_seek se_X8_seek kk72 (by decide) (by decide) dX11_trained_72 rfl rfl (by decide) (by decide) (Nat.le_of_ble_eq_true rfl) (by decide) (by decide) rfl (hsk) ?_
                  rintro r72 ρ72 f72 g72 ⟨rfl, s72_0, e1, e2, e3, e4⟩
                  obtain rfl := s72_0.symm
                  obtain ⟨-, e5⟩ := e1
                  refine V_al0n dX11_trained_75 ?_
                  refine V_getR kk0 (by decide) fl_X11_93 (fx_0_17 hρ) dX11_trained_76 ?_
                  refine V_getZ kk72 (by decide) fl_X11_320 rfl dX11_trained_79 ?_
                  refine V_if_ne (tgt := 97) dX11_trained_82 rfl (by unfold ri; omega) (fun b82 => ?_) (fun b82 => ?_)
                  · refine V_il4 dX11_trained_97 ?_
                    refine V_if_ne (tgt := 110) dX11_trained_99 rfl rw_ (fun b99 => ?_) (fun b99 => ?_)
                    · refine V_il4 dX11_trained_110 ?_
                      refine V_iconst dX11_trained_112 ?_
                      refine V_icmp_ne (tgt := 126) dX11_trained_113 rfl rw_ (by unfold ri; omega) (fun b113 => ?_) (fun b113 => ?_)
                      · refine V_al0n dX11_trained_126 ?_
                        refine V_getR kk0 (by decide) fl_X11_93 (fx_0_17 hρ) dX11_trained_127 ?_
                        refine V_getI kk72 (by decide) fl_X11_329 rfl dX11_trained_130 ?_
                        exact V_ireturn rfl ⟨by rcases e5 with ⟨z1, z2⟩ | z1; omega; (first | rw [z1.2.2.2.1] | rw [z1.2.2.2.2]); congr 3; (repeat' split) <;> omega, rfl, e2, e3, e4⟩ dX11_trained_133
                      · refine V_al0n dX11_trained_116 ?_
                        refine V_getR kk0 (by decide) fl_X11_93 (fx_0_17 hρ) dX11_trained_117 ?_
                        refine V_getI kk72 (by decide) fl_X11_326 rfl dX11_trained_120 ?_
                        refine V_goto (tgt := 133) dX11_trained_123 rfl ?_
                        exact V_ireturn rfl ⟨by rcases e5 with ⟨z1, z2⟩ | z1; omega; (first | rw [z1.2.2.2.1] | rw [z1.2.2.2.2]); congr 3; (repeat' split) <;> omega, rfl, e2, e3, e4⟩ dX11_trained_133
                    · refine V_al0n dX11_trained_102 ?_
                      refine V_getR kk0 (by decide) fl_X11_93 (fx_0_17 hρ) dX11_trained_103 ?_
                      refine V_getI kk72 (by decide) fl_X11_323 rfl dX11_trained_106 ?_
                      exact V_ireturn rfl ⟨by rcases e5 with ⟨z1, z2⟩ | z1; omega; (rw [z1.2.2.1]; congr 3; (repeat' split) <;> omega), rfl, e2, e3, e4⟩ dX11_trained_109
                  · refine V_il4 dX11_trained_85 ?_
                    refine V_if_ne (tgt := 95) dX11_trained_87 rfl rw_ (fun b87 => ?_) (fun b87 => ?_)
                    · refine V_iconst dX11_trained_95 ?_
                      exact V_ireturn rfl ⟨by rcases e5 with ⟨z1, z2⟩ | z1; (rw [z2]; congr 3; simp only; (repeat' split) <;> first | rfl | omega); omega, rfl, e2, e3, e4⟩ dX11_trained_96
                    · refine V_bipush dX11_trained_90 rfl ?_
                      refine V_goto (tgt := 96) dX11_trained_92 rfl ?_
                      exact V_ireturn rfl ⟨by rcases e5 with ⟨z1, z2⟩ | z1; (rw [z2]; congr 3; simp only; (repeat' split) <;> first | rfl | omega); omega, rfl, e2, e3, e4⟩ dX11_trained_96
                · exfalso; omega
  · have ea : aTrained T m n mo w = -999 := by
      unfold aTrained
      rw [if_neg (fun z => c ?_)]
      simp only [Bool.and_eq_true] at z
      obtain ⟨⟨⟨z1, z2⟩, z3⟩, z4⟩ := z
      exact ⟨z1, by unfold zin at z2; simpa using z2, by unfold zin at z3; simpa using z3, by unfold zin at z4; simpa using z4⟩
    rw [ea]
    refine V_al0n dX11_trained_0 ?_
    refine V_getR kk0 (by decide) fl_X11_29 hW.2.2.1 dX11_trained_1 ?_
    refine V_iconst dX11_trained_4 ?_
    refine V_il1n dX11_trained_5 ?_
    refine V_callV (as := [_, _]) ml_X11_160 im_X7_has se_X7_has (kb_0 hb) (by decide) (kl_0 hb) dX11_trained_6 rfl rfl (by decide) (by decide) (Nat.le_of_ble_eq_true rfl) (by decide) (by decide) rfl (c_hasM hW hC rm) ?_
    refine pq4 ?_
    refine V_bt (tgt := 45) dX11_trained_9 rfl (fun b9 => ?_) (fun b9 => ?_)
    · refine V_sipush dX11_trained_45 rfl ?_
      exact V_ireturn rfl ⟨rfl, rfl, hI, fun _ _ _ => rfl, fun _ _ _ => rfl⟩ dX11_trained_48
    · refine V_il2n dX11_trained_12 ?_
      refine V_iconst dX11_trained_13 ?_
      refine V_icmp_lt (tgt := 45) dX11_trained_14 rfl rn_ (by unfold ri; omega) (fun b14 => ?_) (fun b14 => ?_)
      · refine V_sipush dX11_trained_45 rfl ?_
        exact V_ireturn rfl ⟨rfl, rfl, hI, fun _ _ _ => rfl, fun _ _ _ => rfl⟩ dX11_trained_48
      · refine V_il2n dX11_trained_17 ?_
        refine V_bipush dX11_trained_18 rfl ?_
        refine V_icmp_gt (tgt := 45) dX11_trained_20 rfl rn_ (by unfold ri; omega) (fun b20 => ?_) (fun b20 => ?_)
        · refine V_sipush dX11_trained_45 rfl ?_
          exact V_ireturn rfl ⟨rfl, rfl, hI, fun _ _ _ => rfl, fun _ _ _ => rfl⟩ dX11_trained_48
        · refine V_il3n dX11_trained_23 ?_
          refine V_if_lt (tgt := 45) dX11_trained_24 rfl ro (fun b24 => ?_) (fun b24 => ?_)
          · refine V_sipush dX11_trained_45 rfl ?_
            exact V_ireturn rfl ⟨rfl, rfl, hI, fun _ _ _ => rfl, fun _ _ _ => rfl⟩ dX11_trained_48
          · refine V_il3n dX11_trained_27 ?_
            refine V_sipush dX11_trained_28 rfl ?_
            refine V_icmp_gt (tgt := 45) dX11_trained_31 rfl ro (by unfold ri; omega) (fun b31 => ?_) (fun b31 => ?_)
            · refine V_sipush dX11_trained_45 rfl ?_
              exact V_ireturn rfl ⟨rfl, rfl, hI, fun _ _ _ => rfl, fun _ _ _ => rfl⟩ dX11_trained_48
            · refine V_il4 dX11_trained_34 ?_
              refine V_if_lt (tgt := 45) dX11_trained_36 rfl rw_ (fun b36 => ?_) (fun b36 => ?_)
              · refine V_sipush dX11_trained_45 rfl ?_
                exact V_ireturn rfl ⟨rfl, rfl, hI, fun _ _ _ => rfl, fun _ _ _ => rfl⟩ dX11_trained_48
              · refine V_il4 dX11_trained_39 ?_
                refine V_iconst dX11_trained_41 ?_
                refine V_icmp_le (tgt := 49) dX11_trained_42 rfl rw_ (by unfold ri; omega) (fun b42 => ?_) (fun b42 => ?_)
                · exact absurd ⟨b9, by omega, by omega, by omega⟩ c
                · refine V_sipush dX11_trained_45 rfl ?_
                  exact V_ireturn rfl ⟨rfl, rfl, hI, fun _ _ _ => rfl, fun _ _ _ => rfl⟩ dX11_trained_48
end CTRAIN2

