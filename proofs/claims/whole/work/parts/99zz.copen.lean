/-! the class's own constructor, and the reference's -/
section OPEN2
variable {ρ : RT} {f : IT} {g : JT}
theorem kdlt8 {a c n : Nat} (h : kd a = (c, n)) (h1 : c < 99) (h2 : c ≠ 14) : a < 148 := by
  have h3 : a < 149 := kdlt h h1
  by_cases e : a = 148
  · subst e
    rw [kk148] at h
    exact absurd (congrArg Prod.fst h).symm h2
  · omega
end OPEN2
abbrev V8_X12_plain (Q : QT) (pc : Nat) (L st : List Value) (ρ : RT) (f : IT) (g : JT) : Prop := V yX12_plain cX12_plain 2 none 0 0 0 false Q 148 148 0 0 pc L st ρ f g
abbrev C8_X12_plain (as : List Value) (ρ : RT) (f : IT) (g : JT) (Q : QT) : Prop := Ct yX12_plain cX12_plain 2 none 0 0 0 148 148 as ρ f g Q
abbrev V8_X12_copies (Q : QT) (pc : Nat) (L st : List Value) (ρ : RT) (f : IT) (g : JT) : Prop := V yX12_copies cX12_copies 3 none 0 0 0 false Q 148 148 0 0 pc L st ρ f g
abbrev C8_X12_copies (as : List Value) (ρ : RT) (f : IT) (g : JT) (Q : QT) : Prop := Ct yX12_copies cX12_copies 3 none 0 0 0 148 148 as ρ f g Q
abbrev V8_X12_copiesOf (Q : QT) (pc : Nat) (L st : List Value) (ρ : RT) (f : IT) (g : JT) : Prop := V yX12_copiesOf cX12_copiesOf 3 none 0 0 0 false Q 148 148 0 0 pc L st ρ f g
abbrev C8_X12_copiesOf (as : List Value) (ρ : RT) (f : IT) (g : JT) (Q : QT) : Prop := Ct yX12_copiesOf cX12_copiesOf 3 none 0 0 0 148 148 as ρ f g Q
abbrev V8_X12_keepText (Q : QT) (pc : Nat) (L st : List Value) (ρ : RT) (f : IT) (g : JT) : Prop := V yX12_keepText cX12_keepText 1 none 1 0 0 false Q 148 148 0 0 pc L st ρ f g
abbrev C8_X12_keepText (as : List Value) (ρ : RT) (f : IT) (g : JT) (Q : QT) : Prop := Ct yX12_keepText cX12_keepText 1 none 1 0 0 148 148 as ρ f g Q
theorem w_plain8 {Q : QT} {ρ : RT} {f : IT} {g : JT} (hρ : Fx ρ) (hQ : Q none ρ (clL f 16) g) (i : Nat) (hi : 8 ≤ i ∧ i ≤ 16) : V8_X12_plain Q 59 [.ref 104, .int (iz (i : Int))] [] ρ (clL f i) g := by
  refine V_il1n dX12_plain_59 ?_
  refine V_bipush dX12_plain_60 rfl ?_
  refine V_icmp_ge (tgt := 78) dX12_plain_62 rfl (by first | assumption | (unfold ri at *; omega)) (by first | assumption | (unfold ri at *; omega)) (fun b62 => ?_) (fun b62 => ?_)
  · exact V_return rfl (by rw [show i = 16 by omega]; exact hQ) dX12_plain_78
  · refine V_al0n dX12_plain_65 ?_
    refine V_getR kk104 (by decide) fl_X12_81 (fx_104_50 hρ) dX12_plain_66 ?_
    refine V_il1n dX12_plain_69 ?_
    refine V_iconst dX12_plain_70 ?_
    refine V_zast (k := i) kk127 (by decide) (by first | rfl | omega) (by omega) (by first | decide | assumption | omega) (by first | exact Or.inl rfl | exact Or.inr rfl | (unfold bz; split <;> simp)) dX12_plain_71 ?_
    refine V_inc1 dX12_plain_72 (by decide) rfl ?_
    refine V_goto (tgt := 59) dX12_plain_75 rfl ?_
    have e : u2 (clL f i) 127 i 0 = clL f (i + 1) := by
      funext a k
      unfold u2 clL
      by_cases c : a = 127 ∧ k = i
      · rw [if_pos c, if_pos (by omega)]
      · rw [if_neg c]
        by_cases c2 : a = 127 ∧ 8 ≤ k ∧ k < i
        · rw [if_pos c2, if_pos (by omega)]
        · rw [if_neg c2, if_neg (by omega)]
    rw [e]
    exact w_plain8 hρ hQ (i + 1) (by omega)
termination_by 16 - i
theorem c_plain8 {ρ : RT} {f : IT} {g : JT} (hρ : Fx ρ) : C8_X12_plain [.ref 104] ρ f g (fun r ρ' f' g' => r = none ∧ ρ' = ρ ∧ f' = plnF f ∧ g' = g) := by
  refine Ct.ofV (by decide) rfl (Nat.le_of_ble_eq_true rfl) ?_
  refine V_al0n dX12_plain_0 ?_
  refine V_iconst dX12_plain_1 ?_
  refine V_putI kk104 (by decide) fl_X12_216 rfl dX12_plain_2 ?_
  refine V_al0n dX12_plain_5 ?_
  refine V_iconst dX12_plain_6 ?_
  refine V_putI kk104 (by decide) fl_X12_219 rfl dX12_plain_7 ?_
  refine V_al0n dX12_plain_10 ?_
  refine V_iconst dX12_plain_11 ?_
  refine V_putI kk104 (by decide) fl_X12_222 rfl dX12_plain_12 ?_
  refine V_al0n dX12_plain_15 ?_
  refine V_iconst dX12_plain_16 ?_
  refine V_putI kk104 (by decide) fl_X12_225 rfl dX12_plain_17 ?_
  refine V_al0n dX12_plain_20 ?_
  refine V_iconst dX12_plain_21 ?_
  refine V_putI kk104 (by decide) fl_X12_228 rfl dX12_plain_22 ?_
  refine V_al0n dX12_plain_25 ?_
  refine V_iconst dX12_plain_26 ?_
  refine V_putI kk104 (by decide) fl_X12_231 rfl dX12_plain_27 ?_
  refine V_al0n dX12_plain_30 ?_
  refine V_iconst dX12_plain_31 ?_
  refine V_putI kk104 (by decide) fl_X12_234 rfl dX12_plain_32 ?_
  refine V_al0n dX12_plain_35 ?_
  refine V_bipush dX12_plain_36 rfl ?_
  refine V_putI kk104 (by decide) fl_X12_237 rfl dX12_plain_38 ?_
  refine V_al0n dX12_plain_41 ?_
  refine V_iconst dX12_plain_42 ?_
  refine V_putI kk104 (by decide) fl_X12_240 rfl dX12_plain_43 ?_
  refine V_al0n dX12_plain_46 ?_
  refine V_iconst dX12_plain_47 ?_
  refine V_putZ kk104 (by decide) fl_X12_243 rfl (by first | exact Or.inl rfl | exact Or.inr rfl | (unfold bz; split <;> simp)) dX12_plain_48 ?_
  refine V_al0n dX12_plain_51 ?_
  refine V_iconst dX12_plain_52 ?_
  refine V_putZ kk104 (by decide) fl_X12_247 rfl (by first | exact Or.inl rfl | exact Or.inr rfl | (unfold bz; split <;> simp)) dX12_plain_53 ?_
  refine V_bipush dX12_plain_56 rfl ?_
  refine V_is1n dX12_plain_58 (by decide) rfl ?_
  have := w_plain8 (Q := fun r ρ' f' g' => r = none ∧ ρ' = ρ ∧ f' = plnF f ∧ g' = g) (f := u2 (u2 (u2 (u2 (u2 (u2 (u2 (u2 (u2 (u2 (u2 f 104 20 0) 104 21 0) 104 22 0) 104 23 0) 104 24 0) 104 25 0) 104 61 0) 104 26 8) 104 27 0) 104 28 0) 104 29 0) (g := g) hρ ⟨rfl, rfl, rfl, rfl⟩ 8 (by omega)
  rw [clL_8] at this
  exact this
theorem w_copies8 {Q : QT} {ρ : RT} {f : IT} {g : JT} {a n : Nat} (ha : kd a = (13, 2 * n)) (hn : n ≤ 1000) (hQ : Q none ρ (cpH f a n n) g) (i : Nat) (hi : i ≤ n) : V8_X12_copies Q 2 [.ref a, .int (iz (n : Int)), .int (iz (i : Int))] [] ρ (cpH f a n i) g := by
  by_cases e : i = n
  · subst e
    refine V_il2n dX12_copies_2 ?_
    refine V_il1n dX12_copies_3 ?_
    refine V_icmp_ge (tgt := 21) dX12_copies_4 rfl (by first | assumption | (unfold ri at *; omega)) (by first | assumption | (unfold ri at *; omega)) (fun b4 => ?_) (fun b4 => ?_)
    · exact V_return rfl hQ dX12_copies_21
    · exfalso; omega
  · refine V_il2n dX12_copies_2 ?_
    refine V_il1n dX12_copies_3 ?_
    refine V_icmp_ge (tgt := 21) dX12_copies_4 rfl (by first | assumption | (unfold ri at *; omega)) (by first | assumption | (unfold ri at *; omega)) (fun b4 => ?_) (fun b4 => ?_)
    · exfalso; omega
    · refine V_al0n dX12_copies_7 ?_
      refine V_il2n dX12_copies_8 ?_
      refine V_al0n dX12_copies_9 ?_
      refine V_il1n dX12_copies_10 ?_
      refine V_il2n dX12_copies_11 ?_
      refine V_iadd dX12_copies_12 ?_
      refine V_iald (k := (n + i)) ha (kdlt8 ha (by decide) (by decide)) (by first | rfl | omega) (by omega) (by first | decide | assumption | omega) (cpH_b (by omega)) dX12_copies_13 ?_
      refine V_iast (k := i) ha (kdlt8 ha (by decide) (by decide)) (by first | rfl | omega) (by omega) (by first | decide | assumption | omega) dX12_copies_14 ?_
      refine V_inc2 dX12_copies_15 (by decide) rfl ?_
      refine V_goto (tgt := 2) dX12_copies_18 rfl ?_
      rw [cpH_s]
      exact w_copies8 ha hn hQ (i + 1) (by omega)
termination_by n - i
theorem c_copies8 {ρ : RT} {f : IT} {g : JT} {a n : Nat} (ha : kd a = (13, 2 * n)) (hn : n ≤ 1000) : C8_X12_copies [.ref a, .int (iz (n : Int))] ρ f g (fun r ρ' f' g' => r = none ∧ ρ' = ρ ∧ f' = cpH f a n n ∧ g' = g) := by
  refine Ct.ofV (by decide) rfl (Nat.le_of_ble_eq_true rfl) ?_
  refine V_iconst dX12_copies_0 ?_
  refine V_is2n dX12_copies_1 (by decide) rfl ?_
  have := w_copies8 (Q := fun r ρ' f' g' => r = none ∧ ρ' = ρ ∧ f' = cpH f a n n ∧ g' = g) (ρ := ρ) (f := f) (g := g) ha hn ⟨rfl, rfl, rfl, rfl⟩ 0 (by omega)
  rw [cpH_0] at this
  exact this
theorem w_copiesOf8 {Q : QT} {ρ : RT} {f : IT} {g : JT} {a n : Nat} (ha : kd a = (15, 2 * n)) (hn : n ≤ 1000) (hb : ∀ k, f a k = 0 ∨ f a k = 1) (hQ : Q none ρ (cpH f a n n) g) (i : Nat) (hi : i ≤ n) : V8_X12_copiesOf Q 2 [.ref a, .int (iz (n : Int)), .int (iz (i : Int))] [] ρ (cpH f a n i) g := by
  by_cases e : i = n
  · subst e
    refine V_il2n dX12_copiesOf_2 ?_
    refine V_il1n dX12_copiesOf_3 ?_
    refine V_icmp_ge (tgt := 21) dX12_copiesOf_4 rfl (by first | assumption | (unfold ri at *; omega)) (by first | assumption | (unfold ri at *; omega)) (fun b4 => ?_) (fun b4 => ?_)
    · exact V_return rfl hQ dX12_copiesOf_21
    · exfalso; omega
  · refine V_il2n dX12_copiesOf_2 ?_
    refine V_il1n dX12_copiesOf_3 ?_
    refine V_icmp_ge (tgt := 21) dX12_copiesOf_4 rfl (by first | assumption | (unfold ri at *; omega)) (by first | assumption | (unfold ri at *; omega)) (fun b4 => ?_) (fun b4 => ?_)
    · exfalso; omega
    · refine V_al0n dX12_copiesOf_7 ?_
      refine V_il2n dX12_copiesOf_8 ?_
      refine V_al0n dX12_copiesOf_9 ?_
      refine V_il1n dX12_copiesOf_10 ?_
      refine V_il2n dX12_copiesOf_11 ?_
      refine V_iadd dX12_copiesOf_12 ?_
      refine V_zald (k := (n + i)) ha (kdlt8 ha (by decide) (by decide)) (by first | rfl | omega) (by omega) (by first | decide | assumption | omega) (cpH_b (by omega)) dX12_copiesOf_13 ?_
      refine V_zast (k := i) ha (kdlt8 ha (by decide) (by decide)) (by first | rfl | omega) (by omega) (by first | decide | assumption | omega) (hb _) dX12_copiesOf_14 ?_
      refine V_inc2 dX12_copiesOf_15 (by decide) rfl ?_
      refine V_goto (tgt := 2) dX12_copiesOf_18 rfl ?_
      rw [cpH_s]
      exact w_copiesOf8 ha hn hb hQ (i + 1) (by omega)
termination_by n - i
theorem c_copiesOf8 {ρ : RT} {f : IT} {g : JT} {a n : Nat} (ha : kd a = (15, 2 * n)) (hn : n ≤ 1000) (hb : ∀ k, f a k = 0 ∨ f a k = 1) : C8_X12_copiesOf [.ref a, .int (iz (n : Int))] ρ f g (fun r ρ' f' g' => r = none ∧ ρ' = ρ ∧ f' = cpH f a n n ∧ g' = g) := by
  refine Ct.ofV (by decide) rfl (Nat.le_of_ble_eq_true rfl) ?_
  refine V_iconst dX12_copiesOf_0 ?_
  refine V_is2n dX12_copiesOf_1 (by decide) rfl ?_
  have := w_copiesOf8 (Q := fun r ρ' f' g' => r = none ∧ ρ' = ρ ∧ f' = cpH f a n n ∧ g' = g) (ρ := ρ) (f := f) (g := g) ha hn hb ⟨rfl, rfl, rfl, rfl⟩ 0 (by omega)
  rw [cpH_0] at this
  exact this
theorem c_cpJ8 {ρ : RT} {f : IT} {g : JT} (j n a : Nat) (ea : a = 107 + j) (ha : kd a = (13, 2 * n)) (hn : n ≤ 1000) (hh : half (107 + j) = n) : C8_X12_copies [.ref a, .int (iz (n : Int))] ρ (kpN f j) g (fun r ρ' f' g' => r = none ∧ ρ' = ρ ∧ f' = kpN f (j + 1) ∧ g' = g) := by
  subst ea
  have := c_copies8 (ρ := ρ) (f := kpN f j) (g := g) ha hn
  rw [kpN_s hh] at this
  exact this
theorem c_cpJz8 {ρ : RT} {f : IT} {g : JT} (j n a : Nat) (ea : a = 107 + j) (ha : kd a = (15, 2 * n)) (hn : n ≤ 1000) (hh : half (107 + j) = n) (hb : ∀ k, f a k = 0 ∨ f a k = 1) : C8_X12_copiesOf [.ref a, .int (iz (n : Int))] ρ (kpN f j) g (fun r ρ' f' g' => r = none ∧ ρ' = ρ ∧ f' = kpN f (j + 1) ∧ g' = g) := by
  subst ea
  have := c_copiesOf8 (ρ := ρ) (f := kpN f j) (g := g) ha hn (fun k => by unfold kpN; rw [if_neg (by omega)]; exact hb k)
  rw [kpN_s hh] at this
  exact this
theorem w_keep648 {ρ : RT} {f F : IT} {g : JT} {Q : QT} (hρ : Fx ρ) (r8 : ∀ a k, a ≠ 104 → F a k = f a k) (hR : ∀ k, (f 110 k = 0 ∨ f 110 k = 1) ∧ (f 111 k = 0 ∨ f 111 k = 1) ∧ (f 127 k = 0 ∨ f 127 k = 1)) (h19 : ri (F 104 19)) (hQ : Q none ρ (u2 (u2 (u2 (u2 (u2 (u2 (u2 (kpN F 26) 104 67 (F 104 18)) 104 68 0) 104 78 0) 104 82 0) 104 90 0) 104 91 (-1)) 104 97 0) (u2 g 104 69 (F 104 19))) :
    V8_X12_keepText Q 64 [.ref 104] [] ρ (kpN F 0) g := by
  refine V_al0n dX12_keepText_64 ?_
  refine V_getR kk104 (by decide) fl_X12_20 (fx_104_30 hρ) dX12_keepText_65 ?_
  refine V_bipush dX12_keepText_68 rfl ?_
  refine V_callS (as := [_, _]) ml_X12_274 sm_X12_copies dX12_keepText_70 rfl rfl (by decide) (by decide) (Nat.le_of_ble_eq_true rfl) (by decide) (by decide) rfl (c_cpJ8 0 6 107 rfl rfl (by omega) rfl) ?_
  refine pq4 ?_
  refine V_al0n dX12_keepText_73 ?_
  refine V_getR kk104 (by decide) fl_X12_23 (fx_104_31 hρ) dX12_keepText_74 ?_
  refine V_bipush dX12_keepText_77 rfl ?_
  refine V_callS (as := [_, _]) ml_X12_274 sm_X12_copies dX12_keepText_79 rfl rfl (by decide) (by decide) (Nat.le_of_ble_eq_true rfl) (by decide) (by decide) rfl (c_cpJ8 1 6 108 rfl rfl (by omega) rfl) ?_
  refine pq4 ?_
  refine V_al0n dX12_keepText_82 ?_
  refine V_getR kk104 (by decide) fl_X12_26 (fx_104_32 hρ) dX12_keepText_83 ?_
  refine V_bipush dX12_keepText_86 rfl ?_
  refine V_callS (as := [_, _]) ml_X12_274 sm_X12_copies dX12_keepText_88 rfl rfl (by decide) (by decide) (Nat.le_of_ble_eq_true rfl) (by decide) (by decide) rfl (c_cpJ8 2 6 109 rfl rfl (by omega) rfl) ?_
  refine pq4 ?_
  refine V_al0n dX12_keepText_91 ?_
  refine V_getR kk104 (by decide) fl_X12_29 (fx_104_33 hρ) dX12_keepText_92 ?_
  refine V_bipush dX12_keepText_95 rfl ?_
  refine V_callS (as := [_, _]) ml_X12_278 sm_X12_copiesOf dX12_keepText_97 rfl rfl (by decide) (by decide) (Nat.le_of_ble_eq_true rfl) (by decide) (by decide) rfl (c_cpJz8 3 6 110 rfl rfl (by omega) rfl (fun k => by rw [r8 110 k (by omega)]; exact (hR k).1)) ?_
  refine pq4 ?_
  refine V_al0n dX12_keepText_100 ?_
  refine V_getR kk104 (by decide) fl_X12_33 (fx_104_34 hρ) dX12_keepText_101 ?_
  refine V_bipush dX12_keepText_104 rfl ?_
  refine V_callS (as := [_, _]) ml_X12_278 sm_X12_copiesOf dX12_keepText_106 rfl rfl (by decide) (by decide) (Nat.le_of_ble_eq_true rfl) (by decide) (by decide) rfl (c_cpJz8 4 6 111 rfl rfl (by omega) rfl (fun k => by rw [r8 111 k (by omega)]; exact (hR k).2.1)) ?_
  refine pq4 ?_
  refine V_al0n dX12_keepText_109 ?_
  refine V_getR kk104 (by decide) fl_X12_36 (fx_104_35 hρ) dX12_keepText_110 ?_
  refine V_iconst dX12_keepText_113 ?_
  refine V_callS (as := [_, _]) ml_X12_274 sm_X12_copies dX12_keepText_114 rfl rfl (by decide) (by decide) (Nat.le_of_ble_eq_true rfl) (by decide) (by decide) rfl (c_cpJ8 5 5 112 rfl rfl (by omega) rfl) ?_
  refine pq4 ?_
  refine V_al0n dX12_keepText_117 ?_
  refine V_getR kk104 (by decide) fl_X12_39 (fx_104_36 hρ) dX12_keepText_118 ?_
  refine V_iconst dX12_keepText_121 ?_
  refine V_callS (as := [_, _]) ml_X12_274 sm_X12_copies dX12_keepText_122 rfl rfl (by decide) (by decide) (Nat.le_of_ble_eq_true rfl) (by decide) (by decide) rfl (c_cpJ8 6 5 113 rfl rfl (by omega) rfl) ?_
  refine pq4 ?_
  refine V_al0n dX12_keepText_125 ?_
  refine V_getR kk104 (by decide) fl_X12_42 (fx_104_37 hρ) dX12_keepText_126 ?_
  refine V_iconst dX12_keepText_129 ?_
  refine V_callS (as := [_, _]) ml_X12_274 sm_X12_copies dX12_keepText_130 rfl rfl (by decide) (by decide) (Nat.le_of_ble_eq_true rfl) (by decide) (by decide) rfl (c_cpJ8 7 5 114 rfl rfl (by omega) rfl) ?_
  refine pq4 ?_
  refine V_al0n dX12_keepText_133 ?_
  refine V_getR kk104 (by decide) fl_X12_45 (fx_104_38 hρ) dX12_keepText_134 ?_
  refine V_iconst dX12_keepText_137 ?_
  refine V_callS (as := [_, _]) ml_X12_274 sm_X12_copies dX12_keepText_138 rfl rfl (by decide) (by decide) (Nat.le_of_ble_eq_true rfl) (by decide) (by decide) rfl (c_cpJ8 8 5 115 rfl rfl (by omega) rfl) ?_
  refine pq4 ?_
  refine V_al0n dX12_keepText_141 ?_
  refine V_getR kk104 (by decide) fl_X12_48 (fx_104_39 hρ) dX12_keepText_142 ?_
  refine V_iconst dX12_keepText_145 ?_
  refine V_callS (as := [_, _]) ml_X12_274 sm_X12_copies dX12_keepText_146 rfl rfl (by decide) (by decide) (Nat.le_of_ble_eq_true rfl) (by decide) (by decide) rfl (c_cpJ8 9 3 116 rfl rfl (by omega) rfl) ?_
  refine pq4 ?_
  refine V_al0n dX12_keepText_149 ?_
  refine V_getR kk104 (by decide) fl_X12_51 (fx_104_40 hρ) dX12_keepText_150 ?_
  refine V_iconst dX12_keepText_153 ?_
  refine V_callS (as := [_, _]) ml_X12_274 sm_X12_copies dX12_keepText_154 rfl rfl (by decide) (by decide) (Nat.le_of_ble_eq_true rfl) (by decide) (by decide) rfl (c_cpJ8 10 3 117 rfl rfl (by omega) rfl) ?_
  refine pq4 ?_
  refine V_al0n dX12_keepText_157 ?_
  refine V_getR kk104 (by decide) fl_X12_54 (fx_104_41 hρ) dX12_keepText_158 ?_
  refine V_iconst dX12_keepText_161 ?_
  refine V_callS (as := [_, _]) ml_X12_274 sm_X12_copies dX12_keepText_162 rfl rfl (by decide) (by decide) (Nat.le_of_ble_eq_true rfl) (by decide) (by decide) rfl (c_cpJ8 11 3 118 rfl rfl (by omega) rfl) ?_
  refine pq4 ?_
  refine V_al0n dX12_keepText_165 ?_
  refine V_getR kk104 (by decide) fl_X12_57 (fx_104_42 hρ) dX12_keepText_166 ?_
  refine V_iconst dX12_keepText_169 ?_
  refine V_callS (as := [_, _]) ml_X12_274 sm_X12_copies dX12_keepText_170 rfl rfl (by decide) (by decide) (Nat.le_of_ble_eq_true rfl) (by decide) (by decide) rfl (c_cpJ8 12 3 119 rfl rfl (by omega) rfl) ?_
  refine pq4 ?_
  refine V_al0n dX12_keepText_173 ?_
  refine V_getR kk104 (by decide) fl_X12_60 (fx_104_43 hρ) dX12_keepText_174 ?_
  refine V_iconst dX12_keepText_177 ?_
  refine V_callS (as := [_, _]) ml_X12_274 sm_X12_copies dX12_keepText_178 rfl rfl (by decide) (by decide) (Nat.le_of_ble_eq_true rfl) (by decide) (by decide) rfl (c_cpJ8 13 5 120 rfl rfl (by omega) rfl) ?_
  refine pq4 ?_
  refine V_al0n dX12_keepText_181 ?_
  refine V_getR kk104 (by decide) fl_X12_63 (fx_104_44 hρ) dX12_keepText_182 ?_
  refine V_iconst dX12_keepText_185 ?_
  refine V_callS (as := [_, _]) ml_X12_274 sm_X12_copies dX12_keepText_186 rfl rfl (by decide) (by decide) (Nat.le_of_ble_eq_true rfl) (by decide) (by decide) rfl (c_cpJ8 14 5 121 rfl rfl (by omega) rfl) ?_
  refine pq4 ?_
  refine V_al0n dX12_keepText_189 ?_
  refine V_getR kk104 (by decide) fl_X12_66 (fx_104_45 hρ) dX12_keepText_190 ?_
  refine V_iconst dX12_keepText_193 ?_
  refine V_callS (as := [_, _]) ml_X12_274 sm_X12_copies dX12_keepText_194 rfl rfl (by decide) (by decide) (Nat.le_of_ble_eq_true rfl) (by decide) (by decide) rfl (c_cpJ8 15 5 122 rfl rfl (by omega) rfl) ?_
  refine pq4 ?_
  refine V_al0n dX12_keepText_197 ?_
  refine V_getR kk104 (by decide) fl_X12_69 (fx_104_46 hρ) dX12_keepText_198 ?_
  refine V_bipush dX12_keepText_201 rfl ?_
  refine V_callS (as := [_, _]) ml_X12_274 sm_X12_copies dX12_keepText_203 rfl rfl (by decide) (by decide) (Nat.le_of_ble_eq_true rfl) (by decide) (by decide) rfl (c_cpJ8 16 30 123 rfl rfl (by omega) rfl) ?_
  refine pq4 ?_
  refine V_al0n dX12_keepText_206 ?_
  refine V_getR kk104 (by decide) fl_X12_72 (fx_104_47 hρ) dX12_keepText_207 ?_
  refine V_iconst dX12_keepText_210 ?_
  refine V_callS (as := [_, _]) ml_X12_274 sm_X12_copies dX12_keepText_211 rfl rfl (by decide) (by decide) (Nat.le_of_ble_eq_true rfl) (by decide) (by decide) rfl (c_cpJ8 17 4 124 rfl rfl (by omega) rfl) ?_
  refine pq4 ?_
  refine V_al0n dX12_keepText_214 ?_
  refine V_getR kk104 (by decide) fl_X12_75 (fx_104_48 hρ) dX12_keepText_215 ?_
  refine V_iconst dX12_keepText_218 ?_
  refine V_callS (as := [_, _]) ml_X12_274 sm_X12_copies dX12_keepText_219 rfl rfl (by decide) (by decide) (Nat.le_of_ble_eq_true rfl) (by decide) (by decide) rfl (c_cpJ8 18 4 125 rfl rfl (by omega) rfl) ?_
  refine pq4 ?_
  refine V_al0n dX12_keepText_222 ?_
  refine V_getR kk104 (by decide) fl_X12_78 (fx_104_49 hρ) dX12_keepText_223 ?_
  refine V_iconst dX12_keepText_226 ?_
  refine V_callS (as := [_, _]) ml_X12_274 sm_X12_copies dX12_keepText_227 rfl rfl (by decide) (by decide) (Nat.le_of_ble_eq_true rfl) (by decide) (by decide) rfl (c_cpJ8 19 4 126 rfl rfl (by omega) rfl) ?_
  refine pq4 ?_
  refine V_al0n dX12_keepText_230 ?_
  refine V_getR kk104 (by decide) fl_X12_81 (fx_104_50 hρ) dX12_keepText_231 ?_
  refine V_bipush dX12_keepText_234 rfl ?_
  refine V_callS (as := [_, _]) ml_X12_278 sm_X12_copiesOf dX12_keepText_236 rfl rfl (by decide) (by decide) (Nat.le_of_ble_eq_true rfl) (by decide) (by decide) rfl (c_cpJz8 20 8 127 rfl rfl (by omega) rfl (fun k => by rw [r8 127 k (by omega)]; exact (hR k).2.2)) ?_
  refine pq4 ?_
  refine V_al0n dX12_keepText_239 ?_
  refine V_getR kk104 (by decide) fl_X12_84 (fx_104_51 hρ) dX12_keepText_240 ?_
  refine V_bipush dX12_keepText_243 rfl ?_
  refine V_callS (as := [_, _]) ml_X12_274 sm_X12_copies dX12_keepText_245 rfl rfl (by decide) (by decide) (Nat.le_of_ble_eq_true rfl) (by decide) (by decide) rfl (c_cpJ8 21 8 128 rfl rfl (by omega) rfl) ?_
  refine pq4 ?_
  refine V_al0n dX12_keepText_248 ?_
  refine V_getR kk104 (by decide) fl_X12_87 (fx_104_52 hρ) dX12_keepText_249 ?_
  refine V_bipush dX12_keepText_252 rfl ?_
  refine V_callS (as := [_, _]) ml_X12_274 sm_X12_copies dX12_keepText_254 rfl rfl (by decide) (by decide) (Nat.le_of_ble_eq_true rfl) (by decide) (by decide) rfl (c_cpJ8 22 8 129 rfl rfl (by omega) rfl) ?_
  refine pq4 ?_
  refine V_al0n dX12_keepText_257 ?_
  refine V_getR kk104 (by decide) fl_X12_90 (fx_104_53 hρ) dX12_keepText_258 ?_
  refine V_bipush dX12_keepText_261 rfl ?_
  refine V_callS (as := [_, _]) ml_X12_274 sm_X12_copies dX12_keepText_263 rfl rfl (by decide) (by decide) (Nat.le_of_ble_eq_true rfl) (by decide) (by decide) rfl (c_cpJ8 23 64 130 rfl rfl (by omega) rfl) ?_
  refine pq4 ?_
  refine V_al0n dX12_keepText_266 ?_
  refine V_getR kk104 (by decide) fl_X12_93 (fx_104_54 hρ) dX12_keepText_267 ?_
  refine V_bipush dX12_keepText_270 rfl ?_
  refine V_callS (as := [_, _]) ml_X12_274 sm_X12_copies dX12_keepText_272 rfl rfl (by decide) (by decide) (Nat.le_of_ble_eq_true rfl) (by decide) (by decide) rfl (c_cpJ8 24 64 131 rfl rfl (by omega) rfl) ?_
  refine pq4 ?_
  refine V_al0n dX12_keepText_275 ?_
  refine V_getR kk104 (by decide) fl_X12_96 (fx_104_55 hρ) dX12_keepText_276 ?_
  refine V_bipush dX12_keepText_279 rfl ?_
  refine V_callS (as := [_, _]) ml_X12_274 sm_X12_copies dX12_keepText_281 rfl rfl (by decide) (by decide) (Nat.le_of_ble_eq_true rfl) (by decide) (by decide) rfl (c_cpJ8 25 64 132 rfl rfl (by omega) rfl) ?_
  refine pq4 ?_
  refine V_al0n dX12_keepText_284 ?_
  refine V_al0n dX12_keepText_285 ?_
  refine V_getI kk104 (by decide) fl_X12_268 kpN_4 dX12_keepText_286 ?_
  refine V_putI kk104 (by decide) fl_X12_282 rfl dX12_keepText_289 ?_
  refine V_al0n dX12_keepText_292 ?_
  refine V_iconst dX12_keepText_293 ?_
  refine V_putZ kk104 (by decide) fl_X12_285 rfl (by first | exact Or.inl rfl | exact Or.inr rfl | (unfold bz; split <;> simp)) dX12_keepText_294 ?_
  refine V_al0n dX12_keepText_297 ?_
  refine V_al0n dX12_keepText_298 ?_
  refine V_getI kk104 (by decide) fl_X12_271 (u2_n (by decide) (u2_n (by decide) kpN_4)) dX12_keepText_299 ?_
  refine V_i2l dX12_keepText_302 h19 ?_
  refine V_putJ kk104 (by decide) fl_X12_288 rfl dX12_keepText_303 ?_
  refine V_al0n dX12_keepText_306 ?_
  refine V_iconst dX12_keepText_307 ?_
  refine V_putZ kk104 (by decide) fl_X12_292 rfl (by first | exact Or.inl rfl | exact Or.inr rfl | (unfold bz; split <;> simp)) dX12_keepText_308 ?_
  refine V_al0n dX12_keepText_311 ?_
  refine V_iconst dX12_keepText_312 ?_
  refine V_putI kk104 (by decide) fl_X12_295 rfl dX12_keepText_313 ?_
  refine V_al0n dX12_keepText_316 ?_
  refine V_iconst dX12_keepText_317 ?_
  refine V_putI kk104 (by decide) fl_X12_298 rfl dX12_keepText_318 ?_
  refine V_al0n dX12_keepText_321 ?_
  refine V_iconst dX12_keepText_322 ?_
  refine V_putI kk104 (by decide) fl_X12_127 rfl dX12_keepText_323 ?_
  refine V_al0n dX12_keepText_326 ?_
  refine V_iconst dX12_keepText_327 ?_
  refine V_putZ kk104 (by decide) fl_X12_301 rfl (by first | exact Or.inl rfl | exact Or.inr rfl | (unfold bz; split <;> simp)) dX12_keepText_328 ?_
  exact V_return rfl hQ dX12_keepText_331
theorem c_keepText8 {ρ : RT} {f : IT} {g : JT} (hρ : Fx ρ) (hR : ∀ k, (f 110 k = 0 ∨ f 110 k = 1) ∧ (f 111 k = 0 ∨ f 111 k = 1) ∧ (f 127 k = 0 ∨ f 127 k = 1)) (h27 : ri (f 104 27)) : C8_X12_keepText [.ref 104] ρ f g (fun r ρ' f' g' => r = none ∧ ρ' = ρ ∧ f' = kpF f ∧ g' = kpG f g) := by
  have r8 : ∀ a k, a ≠ 104 → kp8 f a k = f a k := fun a k h => by unfold kp8; (repeat rw [u2_o (by omega)])
  have e18 : kp8 f 104 18 = f 104 26 := by unfold kp8; rw [u2_o (by omega), u2_s]
  have e19 : kp8 f 104 19 = f 104 27 := by unfold kp8; rw [u2_s]
  refine Ct.ofV (by decide) rfl (Nat.le_of_ble_eq_true rfl) ?_
  refine V_al0n dX12_keepText_0 ?_
  refine V_al0n dX12_keepText_1 ?_
  refine V_getI kk104 (by decide) fl_X12_216 rfl dX12_keepText_2 ?_
  refine V_putI kk104 (by decide) fl_X12_250 rfl dX12_keepText_5 ?_
  refine V_al0n dX12_keepText_8 ?_
  refine V_al0n dX12_keepText_9 ?_
  refine V_getI kk104 (by decide) fl_X12_219 (u2_n (by decide) rfl) dX12_keepText_10 ?_
  refine V_putI kk104 (by decide) fl_X12_253 rfl dX12_keepText_13 ?_
  refine V_al0n dX12_keepText_16 ?_
  refine V_al0n dX12_keepText_17 ?_
  refine V_getI kk104 (by decide) fl_X12_222 (u2_n (by decide) (u2_n (by decide) rfl)) dX12_keepText_18 ?_
  refine V_putI kk104 (by decide) fl_X12_256 rfl dX12_keepText_21 ?_
  refine V_al0n dX12_keepText_24 ?_
  refine V_al0n dX12_keepText_25 ?_
  refine V_getI kk104 (by decide) fl_X12_225 (u2_n (by decide) (u2_n (by decide) (u2_n (by decide) rfl))) dX12_keepText_26 ?_
  refine V_putI kk104 (by decide) fl_X12_259 rfl dX12_keepText_29 ?_
  refine V_al0n dX12_keepText_32 ?_
  refine V_al0n dX12_keepText_33 ?_
  refine V_getI kk104 (by decide) fl_X12_228 (u2_n (by decide) (u2_n (by decide) (u2_n (by decide) (u2_n (by decide) rfl)))) dX12_keepText_34 ?_
  refine V_putI kk104 (by decide) fl_X12_262 rfl dX12_keepText_37 ?_
  refine V_al0n dX12_keepText_40 ?_
  refine V_al0n dX12_keepText_41 ?_
  refine V_getI kk104 (by decide) fl_X12_231 (u2_n (by decide) (u2_n (by decide) (u2_n (by decide) (u2_n (by decide) (u2_n (by decide) rfl))))) dX12_keepText_42 ?_
  refine V_putI kk104 (by decide) fl_X12_265 rfl dX12_keepText_45 ?_
  refine V_al0n dX12_keepText_48 ?_
  refine V_al0n dX12_keepText_49 ?_
  refine V_getI kk104 (by decide) fl_X12_237 (u2_n (by decide) (u2_n (by decide) (u2_n (by decide) (u2_n (by decide) (u2_n (by decide) (u2_n (by decide) rfl)))))) dX12_keepText_50 ?_
  refine V_putI kk104 (by decide) fl_X12_268 rfl dX12_keepText_53 ?_
  refine V_al0n dX12_keepText_56 ?_
  refine V_al0n dX12_keepText_57 ?_
  refine V_getI kk104 (by decide) fl_X12_240 (u2_n (by decide) (u2_n (by decide) (u2_n (by decide) (u2_n (by decide) (u2_n (by decide) (u2_n (by decide) (u2_n (by decide) rfl))))))) dX12_keepText_58 ?_
  refine V_putI kk104 (by decide) fl_X12_271 rfl dX12_keepText_61 ?_
  rw [show (u2 (u2 (u2 (u2 (u2 (u2 (u2 (u2 f 104 12 (f 104 20)) 104 13 (f 104 21)) 104 14 (f 104 22)) 104 15 (f 104 23)) 104 16 (f 104 24)) 104 17 (f 104 25)) 104 18 (f 104 26)) 104 19 (f 104 27)) = kp8 f from rfl, ← kpN_0 (f := kp8 f)]
  exact w_keep648 hρ r8 hR (by rw [e19]; exact h27) (by rw [e18, e19]; exact ⟨rfl, rfl, rfl, rfl⟩)
section OPEN3
variable {ρ : RT} {f : IT} {g : JT}
def pasR : Nat → RT → RT
  | 0, ρ => ρ
  | i + 1, ρ => u2 (pasR i ρ) 63 i (some (84 + i))
def pasI : Nat → IT → IT
  | 0, f => f
  | i + 1, f => wkI (84 + i) (pasI i f)
def pasG : Nat → JT → JT
  | 0, g => g
  | i + 1, g => wkG (84 + i) (pasG i g)
theorem pasR_o {a k : Nat} (h : a ≠ 63) : ∀ i, pasR i ρ a k = ρ a k
  | 0 => rfl
  | i + 1 => by rw [pasR, u2_o (by omega)]; exact pasR_o h i
theorem w_past {Q : QT} (h9 : ρ 0 9 = some 63) (hQ : Zr 104 (pasR 20 ρ) (pasI 20 f) (pasG 20 g) → Q none (pasR 20 ρ) (pasI 20 f) (pasG 20 g)) (i : Nat) (hi : i ≤ 20) (n kc ks : Nat) (hn : n = 84 + i) (hkc : kc = 83 + i) (hks : ks = 20046 + 15 * i) (hZ : Zr n (pasR i ρ) (pasI i f) (pasG i g)) : V yX11_init cX11_init 2 none 3 103 20346 false Q 104 n kc ks 193 [.ref 0, .int (iz (i : Int))] [] (pasR i ρ) (pasI i f) (pasG i g) := by
  have hc : cN 10 = 15 := rfl
  by_cases e : i = 20
  · subst e hn hkc hks
    refine V_il1n dX11_init_193 ?_
    refine V_bipush dX11_init_194 rfl ?_
    refine V_icmp_ge (tgt := 218) dX11_init_196 rfl (by first | assumption | (unfold ri at *; omega)) (by first | assumption | (unfold ri at *; omega)) (fun b196 => ?_) (fun b196 => ?_)
    · exact V_return rfl (hQ hZ) dX11_init_218
    · exfalso; omega
  · have hkn : kd n = (10, 0) := kdW (by omega)
    have h9i : pasR i ρ 0 9 = some 63 := (pasR_o (by omega) i).trans h9
    have hnF : n < NF := Nat.lt_of_lt_of_le (show n < 149 by omega) (Nat.le_refl _)
    refine V_il1n dX11_init_193 ?_
    refine V_bipush dX11_init_194 rfl ?_
    refine V_icmp_ge (tgt := 218) dX11_init_196 rfl (by first | assumption | (unfold ri at *; omega)) (by first | assumption | (unfold ri at *; omega)) (fun b196 => ?_) (fun b196 => ?_)
    · exfalso; omega
    · refine V_al0n dX11_init_199 ?_
      refine V_getR kk0 (by omega) fl_X11_59 h9i dX11_init_200 ?_
      refine V_il1n dX11_init_203 ?_
      refine V_newZ hkn (by decide) hnF cl_X11_52 it_10 in_10 (by first | decide | omega) (by first | decide | omega) dX11_init_204 (Zr.mono hZ (by first | decide | omega)) ?_
      refine V_dup dX11_init_207 rfl ?_
      refine V_callN (as := []) co_X10_init ii_X10_init mn_X11_54 mp_X10_init im_X10_init rfl dX11_init_208 rfl rfl (by decide) (by decide) (Nat.le_of_ble_eq_true rfl) (by omega) (by omega) rfl (cn_walk hkn (by omega) (hZ.mono (by omega))) ?_
      rintro r208 ρ208 f208 g208 ⟨rfl, rfl, rfl, rfl, z208⟩
      refine V_aast (k := i) kk63 (by decide) hkn (by omega) (by omega) (by first | rfl | omega) (by omega) (by decide) dX11_init_211 ?_
      refine V_inc1 dX11_init_212 (by decide) rfl ?_
      refine V_goto (tgt := 193) dX11_init_215 rfl ?_
      subst hn
      exact w_past h9 hQ (i + 1) (by omega) (84 + i + 1) _ _ (by omega) (by omega) (by omega) (Zr.ur (by omega) z208)
termination_by 20 - i
def oR_0 (ρ : RT) : RT := pasR 20 (u2 (nR_81 (u2 (nR_73 (u2 (nR_72 (u2 (nR_66 (u2 (u2 (u2 (u2 (u2 (nR_55 (u2 (nR_30 (u2 (nR_5 (u2 (nR_2 (u2 (ρ) 0 0 (some 1))) 0 2 (some 2))) 0 3 (some 5))) 0 4 (some 30))) 0 7 (some 55)) 0 8 (some 62)) 0 9 (some 63)) 0 11 (some 64)) 0 15 (some 65))) 0 16 (some 66))) 0 17 (some 72))) 0 18 (some 73))) 0 19 (some 81))
def oI_0 (f : IT) : IT := pasI 20 (nI_81 (nI_73 (nI_72 (nI_66 (wkI 65 (u2 (u2 (u2 (wkI 64 (u2 (wkI 62 (nI_55 (u2 (u2 (nI_30 (nI_5 (nI_2 (u2 (f) 0 1 0)))) 0 5 8) 0 6 0))) 0 10 0)) 0 12 0) 0 13 0) 0 14 0))))))
def oG_0 (g : JT) : JT := pasG 20 (nG_81 (nG_73 (nG_72 (nG_66 (wkG 65 (wkG 64 (wkG 62 (nG_55 (nG_30 (nG_5 (nG_2 (g))))))))))))
theorem cn_0 (hZ : Zr 1 ρ f g) : Ct yX11_init cX11_init 2 none 3 103 20346 1 104 [.ref 0] ρ f g (fun r ρ' f' g' => r = none ∧ ρ' = oR_0 ρ ∧ f' = oI_0 f ∧ g' = oG_0 g ∧ Zr 104 ρ' f' g') := by
  refine Ct.ofV (by decide) rfl (Nat.le_of_ble_eq_true rfl) ?_
  refine V_al0n dX11_init_0 ?_
  refine V_objInit mo_X11_1 io_obj co_obj (by decide) (Nat.le_of_ble_eq_true rfl) dX11_init_1 ?_
  refine V_al0n dX11_init_4 ?_
  refine V_sipush dX11_init_5 rfl ?_
  refine V_newarrZ (ty := .int) kk1 (by decide) (by decide) ac_int rfl (by decide) (by decide) (by decide) dX11_init_8 (Zr.mono hZ (by first | decide | omega)) ?_
  refine V_putFR kk0 (by decide) fl_X11_9 rfl (by decide) dX11_init_10 ?_
  refine V_al0n dX11_init_13 ?_
  refine V_iconst dX11_init_14 ?_
  refine V_putI kk0 (by decide) fl_X11_13 rfl dX11_init_15 ?_
  refine V_al0n dX11_init_18 ?_
  refine V_newZ kk2 (by decide) (by decide) cl_X11_17 it_2 in_2 (by first | decide | omega) (by first | decide | omega) dX11_init_19 (Zr.ui (by first | decide | omega) (Zr.ur (by first | decide | omega) (Zr.mono hZ (by first | decide | omega)))) ?_
  refine V_dup dX11_init_22 rfl ?_
  refine V_al0n dX11_init_23 ?_
  refine V_getR kk0 (by decide) fl_X11_9 rfl dX11_init_24 ?_
  refine V_callI (as := [_]) ml_X11_19 im_X2_init rfl dX11_init_27 rfl rfl (by decide) (by decide) (Nat.le_of_ble_eq_true rfl) (by decide) (by decide) rfl (cn_2 (Zr.ui (by first | decide | omega) (Zr.ur (by first | decide | omega) (Zr.mono hZ (by first | decide | omega))))) ?_
  rintro r27 ρ27 f27 g27 ⟨rfl, rfl, rfl, rfl, z27⟩
  refine V_putFR kk0 (by decide) fl_X11_22 rfl (by decide) dX11_init_30 ?_
  refine V_al0n dX11_init_33 ?_
  refine V_newZ kk5 (by decide) (by decide) cl_X11_26 it_7 in_7 (by first | decide | omega) (by first | decide | omega) dX11_init_34 (Zr.ur (by first | decide | omega) (Zr.mono z27 (by first | decide | omega))) ?_
  refine V_dup dX11_init_37 rfl ?_
  refine V_callN (as := []) co_X7_init ii_X7_init mn_X11_28 mp_X7_init im_X7_init rfl dX11_init_38 rfl rfl (by decide) (by decide) (Nat.le_of_ble_eq_true rfl) (by decide) (by decide) rfl (cn_5 (Zr.ur (by first | decide | omega) (Zr.mono z27 (by first | decide | omega)))) ?_
  rintro r38 ρ38 f38 g38 ⟨rfl, rfl, rfl, rfl, z38⟩
  refine V_putR kk0 (by decide) fl_X11_29 rfl dX11_init_41 ?_
  refine V_al0n dX11_init_44 ?_
  refine V_newZ kk30 (by decide) (by decide) cl_X11_26 it_7 in_7 (by first | decide | omega) (by first | decide | omega) dX11_init_45 (Zr.ur (by first | decide | omega) (Zr.mono z38 (by first | decide | omega))) ?_
  refine V_dup dX11_init_48 rfl ?_
  refine V_callN (as := []) co_X7_init ii_X7_init mn_X11_28 mp_X7_init im_X7_init rfl dX11_init_49 rfl rfl (by decide) (by decide) (Nat.le_of_ble_eq_true rfl) (by decide) (by decide) rfl (cn_30 (Zr.ur (by first | decide | omega) (Zr.mono z38 (by first | decide | omega)))) ?_
  rintro r49 ρ49 f49 g49 ⟨rfl, rfl, rfl, rfl, z49⟩
  refine V_putR kk0 (by decide) fl_X11_33 rfl dX11_init_52 ?_
  refine V_al0n dX11_init_55 ?_
  refine V_bipush dX11_init_56 rfl ?_
  refine V_putI kk0 (by decide) fl_X11_36 rfl dX11_init_58 ?_
  refine V_al0n dX11_init_61 ?_
  refine V_iconst dX11_init_62 ?_
  refine V_putZ kk0 (by decide) fl_X11_39 rfl (by first | exact Or.inl rfl | exact Or.inr rfl | (unfold bz; split <;> simp)) dX11_init_63 ?_
  refine V_al0n dX11_init_66 ?_
  refine V_newZ kk55 (by decide) (by decide) cl_X11_43 it_0 in_0 (by first | decide | omega) (by first | decide | omega) dX11_init_67 (Zr.ui (by first | decide | omega) (Zr.ui (by first | decide | omega) (Zr.ur (by first | decide | omega) (Zr.mono z49 (by first | decide | omega))))) ?_
  refine V_dup dX11_init_70 rfl ?_
  refine V_al0n dX11_init_71 ?_
  refine V_getR kk0 (by decide) fl_X11_29 rfl dX11_init_72 ?_
  refine V_callI (as := [_]) ml_X11_45 im_X0_init rfl dX11_init_75 rfl rfl (by decide) (by decide) (Nat.le_of_ble_eq_true rfl) (by decide) (by decide) rfl (cn_55 (Zr.ui (by first | decide | omega) (Zr.ui (by first | decide | omega) (Zr.ur (by first | decide | omega) (Zr.mono z49 (by first | decide | omega)))))) ?_
  rintro r75 ρ75 f75 g75 ⟨rfl, rfl, rfl, rfl, z75⟩
  refine V_putFR kk0 (by decide) fl_X11_48 rfl (by decide) dX11_init_78 ?_
  refine V_al0n dX11_init_81 ?_
  refine V_newZ kk62 (by decide) (by decide) cl_X11_52 it_10 in_10 (by first | decide | omega) (by first | decide | omega) dX11_init_82 (Zr.ur (by first | decide | omega) (Zr.mono z75 (by first | decide | omega))) ?_
  refine V_dup dX11_init_85 rfl ?_
  refine V_callN (as := []) co_X10_init ii_X10_init mn_X11_54 mp_X10_init im_X10_init rfl dX11_init_86 rfl rfl (by decide) (by decide) (Nat.le_of_ble_eq_true rfl) (by decide) (by decide) rfl (cn_walk kk62 (by decide) (Zr.ur (by first | decide | omega) (Zr.mono z75 (by first | decide | omega)))) ?_
  rintro r86 ρ86 f86 g86 ⟨rfl, rfl, rfl, rfl, z86⟩
  refine V_putFR kk0 (by decide) fl_X11_55 rfl (by decide) dX11_init_89 ?_
  refine V_al0n dX11_init_92 ?_
  refine V_bipush dX11_init_93 rfl ?_
  refine V_anewZ (c2 := 10) kk63 (by decide) (by decide) cl_X11_52 rfl (by decide) (by decide) (by decide) dX11_init_95 (Zr.ur (by first | decide | omega) (Zr.mono z86 (by first | decide | omega))) ?_
  refine V_putFR kk0 (by decide) fl_X11_59 rfl (by decide) dX11_init_98 ?_
  refine V_al0n dX11_init_101 ?_
  refine V_iconst dX11_init_102 ?_
  refine V_putI kk0 (by decide) fl_X11_63 rfl dX11_init_103 ?_
  refine V_al0n dX11_init_106 ?_
  refine V_newZ kk64 (by decide) (by decide) cl_X11_52 it_10 in_10 (by first | decide | omega) (by first | decide | omega) dX11_init_107 (Zr.ui (by first | decide | omega) (Zr.ur (by first | decide | omega) (Zr.ur (by first | decide | omega) (Zr.mono z86 (by first | decide | omega))))) ?_
  refine V_dup dX11_init_110 rfl ?_
  refine V_callN (as := []) co_X10_init ii_X10_init mn_X11_54 mp_X10_init im_X10_init rfl dX11_init_111 rfl rfl (by decide) (by decide) (Nat.le_of_ble_eq_true rfl) (by decide) (by decide) rfl (cn_walk kk64 (by decide) (Zr.ui (by first | decide | omega) (Zr.ur (by first | decide | omega) (Zr.ur (by first | decide | omega) (Zr.mono z86 (by first | decide | omega)))))) ?_
  rintro r111 ρ111 f111 g111 ⟨rfl, rfl, rfl, rfl, z111⟩
  refine V_putFR kk0 (by decide) fl_X11_66 rfl (by decide) dX11_init_114 ?_
  refine V_al0n dX11_init_117 ?_
  refine V_iconst dX11_init_118 ?_
  refine V_putZ kk0 (by decide) fl_X11_69 rfl (by first | exact Or.inl rfl | exact Or.inr rfl | (unfold bz; split <;> simp)) dX11_init_119 ?_
  refine V_al0n dX11_init_122 ?_
  refine V_iconst dX11_init_123 ?_
  refine V_putI kk0 (by decide) fl_X11_72 rfl dX11_init_124 ?_
  refine V_al0n dX11_init_127 ?_
  refine V_iconst dX11_init_128 ?_
  refine V_putZ kk0 (by decide) fl_X11_75 rfl (by first | exact Or.inl rfl | exact Or.inr rfl | (unfold bz; split <;> simp)) dX11_init_129 ?_
  refine V_al0n dX11_init_132 ?_
  refine V_newZ kk65 (by decide) (by decide) cl_X11_52 it_10 in_10 (by first | decide | omega) (by first | decide | omega) dX11_init_133 (Zr.ui (by first | decide | omega) (Zr.ui (by first | decide | omega) (Zr.ui (by first | decide | omega) (Zr.ur (by first | decide | omega) (Zr.mono z111 (by first | decide | omega)))))) ?_
  refine V_dup dX11_init_136 rfl ?_
  refine V_callN (as := []) co_X10_init ii_X10_init mn_X11_54 mp_X10_init im_X10_init rfl dX11_init_137 rfl rfl (by decide) (by decide) (Nat.le_of_ble_eq_true rfl) (by decide) (by decide) rfl (cn_walk kk65 (by decide) (Zr.ui (by first | decide | omega) (Zr.ui (by first | decide | omega) (Zr.ui (by first | decide | omega) (Zr.ur (by first | decide | omega) (Zr.mono z111 (by first | decide | omega))))))) ?_
  rintro r137 ρ137 f137 g137 ⟨rfl, rfl, rfl, rfl, z137⟩
  refine V_putFR kk0 (by decide) fl_X11_78 rfl (by decide) dX11_init_140 ?_
  refine V_al0n dX11_init_143 ?_
  refine V_newZ kk66 (by decide) (by decide) cl_X11_81 it_4 in_4 (by first | decide | omega) (by first | decide | omega) dX11_init_144 (Zr.ur (by first | decide | omega) (Zr.mono z137 (by first | decide | omega))) ?_
  refine V_dup dX11_init_147 rfl ?_
  refine V_al0n dX11_init_148 ?_
  refine V_getR kk0 (by decide) fl_X11_48 rfl dX11_init_149 ?_
  refine V_callI (as := [_]) ml_X11_83 im_X4_init rfl dX11_init_152 rfl rfl (by decide) (by decide) (Nat.le_of_ble_eq_true rfl) (by decide) (by decide) rfl (cn_66 (Zr.ur (by first | decide | omega) (Zr.mono z137 (by first | decide | omega)))) ?_
  rintro r152 ρ152 f152 g152 ⟨rfl, rfl, rfl, rfl, z152⟩
  refine V_putFR kk0 (by decide) fl_X11_86 rfl (by decide) dX11_init_155 ?_
  refine V_al0n dX11_init_158 ?_
  refine V_newZ kk72 (by decide) (by decide) cl_X11_90 it_8 in_8 (by first | decide | omega) (by first | decide | omega) dX11_init_159 (Zr.ur (by first | decide | omega) (Zr.mono z152 (by first | decide | omega))) ?_
  refine V_dup dX11_init_162 rfl ?_
  refine V_callN (as := []) co_X8_init ii_X8_init mn_X11_92 mp_X8_init im_X8_init rfl dX11_init_163 rfl rfl (by decide) (by decide) (Nat.le_of_ble_eq_true rfl) (by decide) (by decide) rfl (cn_72 (Zr.ur (by first | decide | omega) (Zr.mono z152 (by first | decide | omega)))) ?_
  rintro r163 ρ163 f163 g163 ⟨rfl, rfl, rfl, rfl, z163⟩
  refine V_putFR kk0 (by decide) fl_X11_93 rfl (by decide) dX11_init_166 ?_
  refine V_al0n dX11_init_169 ?_
  refine V_newZ kk73 (by decide) (by decide) cl_X11_97 it_5 in_5 (by first | decide | omega) (by first | decide | omega) dX11_init_170 (Zr.ur (by first | decide | omega) (Zr.mono z163 (by first | decide | omega))) ?_
  refine V_dup dX11_init_173 rfl ?_
  refine V_callN (as := []) co_X5_init ii_X5_init mn_X11_99 mp_X5_init im_X5_init rfl dX11_init_174 rfl rfl (by decide) (by decide) (Nat.le_of_ble_eq_true rfl) (by decide) (by decide) rfl (cn_73 (Zr.ur (by first | decide | omega) (Zr.mono z163 (by first | decide | omega)))) ?_
  rintro r174 ρ174 f174 g174 ⟨rfl, rfl, rfl, rfl, z174⟩
  refine V_putFR kk0 (by decide) fl_X11_100 rfl (by decide) dX11_init_177 ?_
  refine V_al0n dX11_init_180 ?_
  refine V_newZ kk81 (by decide) (by decide) cl_X11_104 it_9 in_9 (by first | decide | omega) (by first | decide | omega) dX11_init_181 (Zr.ur (by first | decide | omega) (Zr.mono z174 (by first | decide | omega))) ?_
  refine V_dup dX11_init_184 rfl ?_
  refine V_callN (as := []) co_X9_init ii_X9_init mn_X11_106 mp_X9_init im_X9_init rfl dX11_init_185 rfl rfl (by decide) (by decide) (Nat.le_of_ble_eq_true rfl) (by decide) (by decide) rfl (cn_81 (Zr.ur (by first | decide | omega) (Zr.mono z174 (by first | decide | omega)))) ?_
  rintro r185 ρ185 f185 g185 ⟨rfl, rfl, rfl, rfl, z185⟩
  refine V_putFR kk0 (by decide) fl_X11_107 rfl (by decide) dX11_init_188 ?_
  refine V_iconst dX11_init_191 ?_
  refine V_is1n dX11_init_192 (by decide) rfl ?_
  exact w_past rfl (fun hz => ⟨rfl, rfl, rfl, rfl, hz⟩) 0 (by omega) 84 _ _ rfl rfl rfl (Zr.ur (by first | decide | omega) (Zr.mono z185 (by first | decide | omega)))
end OPEN3
section OPEN4
variable {ρ : RT} {f : IT} {g : JT}
def mR1 (ρ : RT) : RT := u2 (u2 (ρ) 104 0 (some 105)) 104 3 (some 106)
def mI1 (f : IT) : IT := u2 (u2 (u2 (u2 (u2 (u2 (u2 (u2 (u2 (u2 (u2 (u2 (u2 (u2 (u2 (u2 (u2 (u2 (u2 (u2 (u2 (u2 (u2 (u2 (u2 (u2 (u2 (u2 (u2 (u2 (u2 (u2 (u2 (u2 (u2 (u2 (u2 (u2 (u2 (u2 (u2 (u2 (u2 (u2 (u2 (u2 (u2 (u2 (u2 (u2 (u2 (u2 (u2 (u2 (u2 (u2 (u2 (u2 (u2 (u2 (u2 (u2 (u2 (u2 (u2 (u2 (u2 (u2 (u2 (u2 (u2 (u2 (u2 (u2 (u2 (u2 (u2 (u2 (u2 (u2 (u2 (u2 (u2 (u2 (u2 (u2 (u2 (u2 (u2 (u2 (u2 (u2 (u2 (u2 (u2 (u2 (u2 (u2 (u2 (u2 (u2 (u2 (u2 (u2 (u2 (u2 (u2 (u2 (u2 (u2 (u2 (u2 (u2 (u2 (u2 (u2 (u2 (u2 (u2 (u2 (u2 (u2 (u2 (u2 (u2 (u2 (u2 (u2 (u2 (u2 (u2 (u2 (u2 (u2 (u2 (u2 (u2 (u2 (u2 (u2 (u2 (u2 (u2 (u2 (f) 106 0 108) 106 1 97) 106 2 110) 106 3 101) 106 4 32) 106 5 109) 106 6 97) 106 7 110) 106 8 32) 106 9 104) 106 10 111) 106 11 108) 106 12 100) 106 13 32) 106 14 112) 106 15 108) 106 16 97) 106 17 110) 106 18 32) 106 19 106) 106 20 117) 106 21 100) 106 22 103) 106 23 101) 106 24 32) 106 25 108) 106 26 111) 106 27 97) 106 28 100) 106 29 32) 106 30 115) 106 31 101) 106 32 101) 106 33 100) 106 34 32) 106 35 108) 106 36 97) 106 37 119) 106 38 32) 106 39 98) 106 40 101) 106 41 110) 106 42 100) 106 43 32) 106 44 119) 106 45 101) 106 46 116) 106 47 32) 106 48 116) 106 49 105) 106 50 109) 106 51 101) 106 52 32) 106 53 99) 106 54 111) 106 55 115) 106 56 116) 106 57 32) 106 58 97) 106 59 99) 106 60 104) 106 61 101) 106 62 32) 106 63 103) 106 64 97) 106 65 105) 106 66 110) 106 67 32) 106 68 116) 106 69 105) 106 70 114) 106 71 101) 106 72 32) 106 73 104) 106 74 97) 106 75 114) 106 76 109) 106 77 32) 106 78 106) 106 79 97) 106 80 109) 106 81 32) 106 82 119) 106 83 105) 106 84 100) 106 85 101) 106 86 32) 106 87 97) 106 88 110) 106 89 100) 106 90 32) 106 91 111) 106 92 114) 106 93 32) 106 94 110) 106 95 111) 106 96 116) 106 97 32) 106 98 112) 106 99 97) 106 100 99) 106 101 101) 106 102 32) 106 103 115) 106 104 108) 106 105 111) 106 106 112) 106 107 101) 106 108 32) 106 109 104) 106 110 101) 106 111 97) 106 112 118) 106 113 121) 106 114 32) 106 115 119) 106 116 101) 106 117 105) 106 118 103) 106 119 104) 106 120 116) 106 121 32) 106 122 119) 106 123 105) 106 124 110) 106 125 100) 106 126 32) 106 127 108) 106 128 101) 106 129 103) 106 130 115) 106 131 32) 106 132 100) 106 133 97) 106 134 109) 106 135 112) 106 136 32) 106 137 99) 106 138 117) 106 139 114) 106 140 118) 106 141 101) 106 142 32) 104 5 (-1)
def mR2 (ρ : RT) : RT := u2 (u2 (u2 (u2 (u2 (u2 (u2 (u2 (u2 (u2 (u2 (u2 (u2 (u2 (u2 (u2 (u2 (u2 (u2 (u2 (u2 (u2 (u2 (u2 (u2 (u2 (u2 (u2 (u2 (u2 (u2 (u2 (u2 (u2 (u2 (u2 (u2 (u2 (u2 (u2 (u2 (ρ) 104 30 (some 107)) 104 31 (some 108)) 104 32 (some 109)) 104 33 (some 110)) 104 34 (some 111)) 104 35 (some 112)) 104 36 (some 113)) 104 37 (some 114)) 104 38 (some 115)) 104 39 (some 116)) 104 40 (some 117)) 104 41 (some 118)) 104 42 (some 119)) 104 43 (some 120)) 104 44 (some 121)) 104 45 (some 122)) 104 46 (some 123)) 104 47 (some 124)) 104 48 (some 125)) 104 49 (some 126)) 104 50 (some 127)) 104 51 (some 128)) 104 52 (some 129)) 104 53 (some 130)) 104 54 (some 131)) 104 55 (some 132)) 104 56 (some 133)) 104 57 (some 134)) 104 64 (some 135)) 104 65 (some 136)) 104 81 (some 137)) 104 83 (some 138)) 104 84 (some 139)) 104 85 (some 140)) 104 86 (some 141)) 104 92 (some 142)) 104 93 (some 143)) 104 94 (some 144)) 104 95 (some 145)) 104 96 (some 146)) 104 101 (some 147)
def mI2 (f : IT) : IT := u2 (f) 104 91 (-1)
theorem pk_zr {n : Nat} (hn : 148 ≤ n) (h : Zr n ρ f g) : Zr n ρ (kpF (plnF f)) (kpG (plnF f) g) := fun a k z1 z2 => by
  obtain ⟨h1, h2, h3⟩ := h a k z1 z2
  refine ⟨h1, ?_, ?_⟩
  · rw [kpF_o (by omega) (by omega)]
    unfold plnF clL
    rw [if_neg (by omega), u2_o (by omega), u2_o (by omega), u2_o (by omega), u2_o (by omega), u2_o (by omega), u2_o (by omega), u2_o (by omega), u2_o (by omega), u2_o (by omega), u2_o (by omega), u2_o (by omega)]
    exact h2
  · unfold kpG
    rw [u2_o (by omega)]; exact h3
theorem w_m894 {Q : QT} (hF : Fx (mR2 ρ)) (hZ : Zr 107 ρ f g) (hQ : Zr 148 (mR2 ρ) (kpF (plnF (mI2 f))) (kpG (plnF (mI2 f)) g) → Q none (mR2 ρ) (kpF (plnF (mI2 f))) (kpG (plnF (mI2 f)) g)) : V yX12_init cX12_init 1 none 2 43 54607 false Q 148 107 2 843 894 [.ref 104] [] ρ f g := by
  have z := fun a k (h1 : 107 ≤ a) (h2 : a < 1000) => (hZ a k h1 h2).2.1
  have hR : ∀ k, (plnF (mI2 f) 110 k = 0 ∨ plnF (mI2 f) 110 k = 1) ∧ (plnF (mI2 f) 111 k = 0 ∨ plnF (mI2 f) 111 k = 1) ∧ (plnF (mI2 f) 127 k = 0 ∨ plnF (mI2 f) 127 k = 1) := fun k => by
    refine ⟨Or.inl ?_, Or.inl ?_, Or.inl ?_⟩
    · exact z 110 k (by omega) (by omega)
    · exact z 111 k (by omega) (by omega)
    · unfold plnF clL
      split
      · rfl
      · exact z 127 k (by omega) (by omega)
  have h27 : plnF (mI2 f) 104 27 = 0 := rfl
  refine V_al0n dX12_init_894 ?_
  refine V_bipush dX12_init_895 rfl ?_
  refine V_newarrZ (ty := .int) kk107 (by decide) (by decide) ac_int rfl (by decide) (by decide) (by decide) dX12_init_897 (Zr.mono hZ (by first | decide | omega)) ?_
  refine V_putFR kk104 (by decide) fl_X12_20 rfl (by decide) dX12_init_899 ?_
  refine V_al0n dX12_init_902 ?_
  refine V_bipush dX12_init_903 rfl ?_
  refine V_newarrZ (ty := .int) kk108 (by decide) (by decide) ac_int rfl (by decide) (by decide) (by decide) dX12_init_905 (Zr.ur (by first | decide | omega) (Zr.mono hZ (by first | decide | omega))) ?_
  refine V_putFR kk104 (by decide) fl_X12_23 rfl (by decide) dX12_init_907 ?_
  refine V_al0n dX12_init_910 ?_
  refine V_bipush dX12_init_911 rfl ?_
  refine V_newarrZ (ty := .int) kk109 (by decide) (by decide) ac_int rfl (by decide) (by decide) (by decide) dX12_init_913 (Zr.ur (by first | decide | omega) (Zr.ur (by first | decide | omega) (Zr.mono hZ (by first | decide | omega)))) ?_
  refine V_putFR kk104 (by decide) fl_X12_26 rfl (by decide) dX12_init_915 ?_
  refine V_al0n dX12_init_918 ?_
  refine V_bipush dX12_init_919 rfl ?_
  refine V_newarrZ (ty := .int) kk110 (by decide) (by decide) ac_boolean rfl (by decide) (by decide) (by decide) dX12_init_921 (Zr.ur (by first | decide | omega) (Zr.ur (by first | decide | omega) (Zr.ur (by first | decide | omega) (Zr.mono hZ (by first | decide | omega))))) ?_
  refine V_putFR kk104 (by decide) fl_X12_29 rfl (by decide) dX12_init_923 ?_
  refine V_al0n dX12_init_926 ?_
  refine V_bipush dX12_init_927 rfl ?_
  refine V_newarrZ (ty := .int) kk111 (by decide) (by decide) ac_boolean rfl (by decide) (by decide) (by decide) dX12_init_929 (Zr.ur (by first | decide | omega) (Zr.ur (by first | decide | omega) (Zr.ur (by first | decide | omega) (Zr.ur (by first | decide | omega) (Zr.mono hZ (by first | decide | omega)))))) ?_
  refine V_putFR kk104 (by decide) fl_X12_33 rfl (by decide) dX12_init_931 ?_
  refine V_al0n dX12_init_934 ?_
  refine V_bipush dX12_init_935 rfl ?_
  refine V_newarrZ (ty := .int) kk112 (by decide) (by decide) ac_int rfl (by decide) (by decide) (by decide) dX12_init_937 (Zr.ur (by first | decide | omega) (Zr.ur (by first | decide | omega) (Zr.ur (by first | decide | omega) (Zr.ur (by first | decide | omega) (Zr.ur (by first | decide | omega) (Zr.mono hZ (by first | decide | omega))))))) ?_
  refine V_putFR kk104 (by decide) fl_X12_36 rfl (by decide) dX12_init_939 ?_
  refine V_al0n dX12_init_942 ?_
  refine V_bipush dX12_init_943 rfl ?_
  refine V_newarrZ (ty := .int) kk113 (by decide) (by decide) ac_int rfl (by decide) (by decide) (by decide) dX12_init_945 (Zr.ur (by first | decide | omega) (Zr.ur (by first | decide | omega) (Zr.ur (by first | decide | omega) (Zr.ur (by first | decide | omega) (Zr.ur (by first | decide | omega) (Zr.ur (by first | decide | omega) (Zr.mono hZ (by first | decide | omega)))))))) ?_
  refine V_putFR kk104 (by decide) fl_X12_39 rfl (by decide) dX12_init_947 ?_
  refine V_al0n dX12_init_950 ?_
  refine V_bipush dX12_init_951 rfl ?_
  refine V_newarrZ (ty := .int) kk114 (by decide) (by decide) ac_int rfl (by decide) (by decide) (by decide) dX12_init_953 (Zr.ur (by first | decide | omega) (Zr.ur (by first | decide | omega) (Zr.ur (by first | decide | omega) (Zr.ur (by first | decide | omega) (Zr.ur (by first | decide | omega) (Zr.ur (by first | decide | omega) (Zr.ur (by first | decide | omega) (Zr.mono hZ (by first | decide | omega))))))))) ?_
  refine V_putFR kk104 (by decide) fl_X12_42 rfl (by decide) dX12_init_955 ?_
  refine V_al0n dX12_init_958 ?_
  refine V_bipush dX12_init_959 rfl ?_
  refine V_newarrZ (ty := .int) kk115 (by decide) (by decide) ac_int rfl (by decide) (by decide) (by decide) dX12_init_961 (Zr.ur (by first | decide | omega) (Zr.ur (by first | decide | omega) (Zr.ur (by first | decide | omega) (Zr.ur (by first | decide | omega) (Zr.ur (by first | decide | omega) (Zr.ur (by first | decide | omega) (Zr.ur (by first | decide | omega) (Zr.ur (by first | decide | omega) (Zr.mono hZ (by first | decide | omega)))))))))) ?_
  refine V_putFR kk104 (by decide) fl_X12_45 rfl (by decide) dX12_init_963 ?_
  refine V_al0n dX12_init_966 ?_
  refine V_bipush dX12_init_967 rfl ?_
  refine V_newarrZ (ty := .int) kk116 (by decide) (by decide) ac_int rfl (by decide) (by decide) (by decide) dX12_init_969 (Zr.ur (by first | decide | omega) (Zr.ur (by first | decide | omega) (Zr.ur (by first | decide | omega) (Zr.ur (by first | decide | omega) (Zr.ur (by first | decide | omega) (Zr.ur (by first | decide | omega) (Zr.ur (by first | decide | omega) (Zr.ur (by first | decide | omega) (Zr.ur (by first | decide | omega) (Zr.mono hZ (by first | decide | omega))))))))))) ?_
  refine V_putFR kk104 (by decide) fl_X12_48 rfl (by decide) dX12_init_971 ?_
  refine V_al0n dX12_init_974 ?_
  refine V_bipush dX12_init_975 rfl ?_
  refine V_newarrZ (ty := .int) kk117 (by decide) (by decide) ac_int rfl (by decide) (by decide) (by decide) dX12_init_977 (Zr.ur (by first | decide | omega) (Zr.ur (by first | decide | omega) (Zr.ur (by first | decide | omega) (Zr.ur (by first | decide | omega) (Zr.ur (by first | decide | omega) (Zr.ur (by first | decide | omega) (Zr.ur (by first | decide | omega) (Zr.ur (by first | decide | omega) (Zr.ur (by first | decide | omega) (Zr.ur (by first | decide | omega) (Zr.mono hZ (by first | decide | omega)))))))))))) ?_
  refine V_putFR kk104 (by decide) fl_X12_51 rfl (by decide) dX12_init_979 ?_
  refine V_al0n dX12_init_982 ?_
  refine V_bipush dX12_init_983 rfl ?_
  refine V_newarrZ (ty := .int) kk118 (by decide) (by decide) ac_int rfl (by decide) (by decide) (by decide) dX12_init_985 (Zr.ur (by first | decide | omega) (Zr.ur (by first | decide | omega) (Zr.ur (by first | decide | omega) (Zr.ur (by first | decide | omega) (Zr.ur (by first | decide | omega) (Zr.ur (by first | decide | omega) (Zr.ur (by first | decide | omega) (Zr.ur (by first | decide | omega) (Zr.ur (by first | decide | omega) (Zr.ur (by first | decide | omega) (Zr.ur (by first | decide | omega) (Zr.mono hZ (by first | decide | omega))))))))))))) ?_
  refine V_putFR kk104 (by decide) fl_X12_54 rfl (by decide) dX12_init_987 ?_
  refine V_al0n dX12_init_990 ?_
  refine V_bipush dX12_init_991 rfl ?_
  refine V_newarrZ (ty := .int) kk119 (by decide) (by decide) ac_int rfl (by decide) (by decide) (by decide) dX12_init_993 (Zr.ur (by first | decide | omega) (Zr.ur (by first | decide | omega) (Zr.ur (by first | decide | omega) (Zr.ur (by first | decide | omega) (Zr.ur (by first | decide | omega) (Zr.ur (by first | decide | omega) (Zr.ur (by first | decide | omega) (Zr.ur (by first | decide | omega) (Zr.ur (by first | decide | omega) (Zr.ur (by first | decide | omega) (Zr.ur (by first | decide | omega) (Zr.ur (by first | decide | omega) (Zr.mono hZ (by first | decide | omega)))))))))))))) ?_
  refine V_putFR kk104 (by decide) fl_X12_57 rfl (by decide) dX12_init_995 ?_
  refine V_al0n dX12_init_998 ?_
  refine V_bipush dX12_init_999 rfl ?_
  refine V_newarrZ (ty := .int) kk120 (by decide) (by decide) ac_int rfl (by decide) (by decide) (by decide) dX12_init_1001 (Zr.ur (by first | decide | omega) (Zr.ur (by first | decide | omega) (Zr.ur (by first | decide | omega) (Zr.ur (by first | decide | omega) (Zr.ur (by first | decide | omega) (Zr.ur (by first | decide | omega) (Zr.ur (by first | decide | omega) (Zr.ur (by first | decide | omega) (Zr.ur (by first | decide | omega) (Zr.ur (by first | decide | omega) (Zr.ur (by first | decide | omega) (Zr.ur (by first | decide | omega) (Zr.ur (by first | decide | omega) (Zr.mono hZ (by first | decide | omega))))))))))))))) ?_
  refine V_putFR kk104 (by decide) fl_X12_60 rfl (by decide) dX12_init_1003 ?_
  refine V_al0n dX12_init_1006 ?_
  refine V_bipush dX12_init_1007 rfl ?_
  refine V_newarrZ (ty := .int) kk121 (by decide) (by decide) ac_int rfl (by decide) (by decide) (by decide) dX12_init_1009 (Zr.ur (by first | decide | omega) (Zr.ur (by first | decide | omega) (Zr.ur (by first | decide | omega) (Zr.ur (by first | decide | omega) (Zr.ur (by first | decide | omega) (Zr.ur (by first | decide | omega) (Zr.ur (by first | decide | omega) (Zr.ur (by first | decide | omega) (Zr.ur (by first | decide | omega) (Zr.ur (by first | decide | omega) (Zr.ur (by first | decide | omega) (Zr.ur (by first | decide | omega) (Zr.ur (by first | decide | omega) (Zr.ur (by first | decide | omega) (Zr.mono hZ (by first | decide | omega)))))))))))))))) ?_
  refine V_putFR kk104 (by decide) fl_X12_63 rfl (by decide) dX12_init_1011 ?_
  refine V_al0n dX12_init_1014 ?_
  refine V_bipush dX12_init_1015 rfl ?_
  refine V_newarrZ (ty := .int) kk122 (by decide) (by decide) ac_int rfl (by decide) (by decide) (by decide) dX12_init_1017 (Zr.ur (by first | decide | omega) (Zr.ur (by first | decide | omega) (Zr.ur (by first | decide | omega) (Zr.ur (by first | decide | omega) (Zr.ur (by first | decide | omega) (Zr.ur (by first | decide | omega) (Zr.ur (by first | decide | omega) (Zr.ur (by first | decide | omega) (Zr.ur (by first | decide | omega) (Zr.ur (by first | decide | omega) (Zr.ur (by first | decide | omega) (Zr.ur (by first | decide | omega) (Zr.ur (by first | decide | omega) (Zr.ur (by first | decide | omega) (Zr.ur (by first | decide | omega) (Zr.mono hZ (by first | decide | omega))))))))))))))))) ?_
  refine V_putFR kk104 (by decide) fl_X12_66 rfl (by decide) dX12_init_1019 ?_
  refine V_al0n dX12_init_1022 ?_
  refine V_bipush dX12_init_1023 rfl ?_
  refine V_newarrZ (ty := .int) kk123 (by decide) (by decide) ac_int rfl (by decide) (by decide) (by decide) dX12_init_1025 (Zr.ur (by first | decide | omega) (Zr.ur (by first | decide | omega) (Zr.ur (by first | decide | omega) (Zr.ur (by first | decide | omega) (Zr.ur (by first | decide | omega) (Zr.ur (by first | decide | omega) (Zr.ur (by first | decide | omega) (Zr.ur (by first | decide | omega) (Zr.ur (by first | decide | omega) (Zr.ur (by first | decide | omega) (Zr.ur (by first | decide | omega) (Zr.ur (by first | decide | omega) (Zr.ur (by first | decide | omega) (Zr.ur (by first | decide | omega) (Zr.ur (by first | decide | omega) (Zr.ur (by first | decide | omega) (Zr.mono hZ (by first | decide | omega)))))))))))))))))) ?_
  refine V_putFR kk104 (by decide) fl_X12_69 rfl (by decide) dX12_init_1027 ?_
  refine V_al0n dX12_init_1030 ?_
  refine V_bipush dX12_init_1031 rfl ?_
  refine V_newarrZ (ty := .int) kk124 (by decide) (by decide) ac_int rfl (by decide) (by decide) (by decide) dX12_init_1033 (Zr.ur (by first | decide | omega) (Zr.ur (by first | decide | omega) (Zr.ur (by first | decide | omega) (Zr.ur (by first | decide | omega) (Zr.ur (by first | decide | omega) (Zr.ur (by first | decide | omega) (Zr.ur (by first | decide | omega) (Zr.ur (by first | decide | omega) (Zr.ur (by first | decide | omega) (Zr.ur (by first | decide | omega) (Zr.ur (by first | decide | omega) (Zr.ur (by first | decide | omega) (Zr.ur (by first | decide | omega) (Zr.ur (by first | decide | omega) (Zr.ur (by first | decide | omega) (Zr.ur (by first | decide | omega) (Zr.ur (by first | decide | omega) (Zr.mono hZ (by first | decide | omega))))))))))))))))))) ?_
  refine V_putFR kk104 (by decide) fl_X12_72 rfl (by decide) dX12_init_1035 ?_
  refine V_al0n dX12_init_1038 ?_
  refine V_bipush dX12_init_1039 rfl ?_
  refine V_newarrZ (ty := .int) kk125 (by decide) (by decide) ac_int rfl (by decide) (by decide) (by decide) dX12_init_1041 (Zr.ur (by first | decide | omega) (Zr.ur (by first | decide | omega) (Zr.ur (by first | decide | omega) (Zr.ur (by first | decide | omega) (Zr.ur (by first | decide | omega) (Zr.ur (by first | decide | omega) (Zr.ur (by first | decide | omega) (Zr.ur (by first | decide | omega) (Zr.ur (by first | decide | omega) (Zr.ur (by first | decide | omega) (Zr.ur (by first | decide | omega) (Zr.ur (by first | decide | omega) (Zr.ur (by first | decide | omega) (Zr.ur (by first | decide | omega) (Zr.ur (by first | decide | omega) (Zr.ur (by first | decide | omega) (Zr.ur (by first | decide | omega) (Zr.ur (by first | decide | omega) (Zr.mono hZ (by first | decide | omega)))))))))))))))))))) ?_
  refine V_putFR kk104 (by decide) fl_X12_75 rfl (by decide) dX12_init_1043 ?_
  refine V_al0n dX12_init_1046 ?_
  refine V_bipush dX12_init_1047 rfl ?_
  refine V_newarrZ (ty := .int) kk126 (by decide) (by decide) ac_int rfl (by decide) (by decide) (by decide) dX12_init_1049 (Zr.ur (by first | decide | omega) (Zr.ur (by first | decide | omega) (Zr.ur (by first | decide | omega) (Zr.ur (by first | decide | omega) (Zr.ur (by first | decide | omega) (Zr.ur (by first | decide | omega) (Zr.ur (by first | decide | omega) (Zr.ur (by first | decide | omega) (Zr.ur (by first | decide | omega) (Zr.ur (by first | decide | omega) (Zr.ur (by first | decide | omega) (Zr.ur (by first | decide | omega) (Zr.ur (by first | decide | omega) (Zr.ur (by first | decide | omega) (Zr.ur (by first | decide | omega) (Zr.ur (by first | decide | omega) (Zr.ur (by first | decide | omega) (Zr.ur (by first | decide | omega) (Zr.ur (by first | decide | omega) (Zr.mono hZ (by first | decide | omega))))))))))))))))))))) ?_
  refine V_putFR kk104 (by decide) fl_X12_78 rfl (by decide) dX12_init_1051 ?_
  refine V_al0n dX12_init_1054 ?_
  refine V_bipush dX12_init_1055 rfl ?_
  refine V_newarrZ (ty := .int) kk127 (by decide) (by decide) ac_boolean rfl (by decide) (by decide) (by decide) dX12_init_1057 (Zr.ur (by first | decide | omega) (Zr.ur (by first | decide | omega) (Zr.ur (by first | decide | omega) (Zr.ur (by first | decide | omega) (Zr.ur (by first | decide | omega) (Zr.ur (by first | decide | omega) (Zr.ur (by first | decide | omega) (Zr.ur (by first | decide | omega) (Zr.ur (by first | decide | omega) (Zr.ur (by first | decide | omega) (Zr.ur (by first | decide | omega) (Zr.ur (by first | decide | omega) (Zr.ur (by first | decide | omega) (Zr.ur (by first | decide | omega) (Zr.ur (by first | decide | omega) (Zr.ur (by first | decide | omega) (Zr.ur (by first | decide | omega) (Zr.ur (by first | decide | omega) (Zr.ur (by first | decide | omega) (Zr.ur (by first | decide | omega) (Zr.mono hZ (by first | decide | omega)))))))))))))))))))))) ?_
  refine V_putFR kk104 (by decide) fl_X12_81 rfl (by decide) dX12_init_1059 ?_
  refine V_al0n dX12_init_1062 ?_
  refine V_bipush dX12_init_1063 rfl ?_
  refine V_newarrZ (ty := .int) kk128 (by decide) (by decide) ac_int rfl (by decide) (by decide) (by decide) dX12_init_1065 (Zr.ur (by first | decide | omega) (Zr.ur (by first | decide | omega) (Zr.ur (by first | decide | omega) (Zr.ur (by first | decide | omega) (Zr.ur (by first | decide | omega) (Zr.ur (by first | decide | omega) (Zr.ur (by first | decide | omega) (Zr.ur (by first | decide | omega) (Zr.ur (by first | decide | omega) (Zr.ur (by first | decide | omega) (Zr.ur (by first | decide | omega) (Zr.ur (by first | decide | omega) (Zr.ur (by first | decide | omega) (Zr.ur (by first | decide | omega) (Zr.ur (by first | decide | omega) (Zr.ur (by first | decide | omega) (Zr.ur (by first | decide | omega) (Zr.ur (by first | decide | omega) (Zr.ur (by first | decide | omega) (Zr.ur (by first | decide | omega) (Zr.ur (by first | decide | omega) (Zr.mono hZ (by first | decide | omega))))))))))))))))))))))) ?_
  refine V_putFR kk104 (by decide) fl_X12_84 rfl (by decide) dX12_init_1067 ?_
  refine V_al0n dX12_init_1070 ?_
  refine V_bipush dX12_init_1071 rfl ?_
  refine V_newarrZ (ty := .int) kk129 (by decide) (by decide) ac_int rfl (by decide) (by decide) (by decide) dX12_init_1073 (Zr.ur (by first | decide | omega) (Zr.ur (by first | decide | omega) (Zr.ur (by first | decide | omega) (Zr.ur (by first | decide | omega) (Zr.ur (by first | decide | omega) (Zr.ur (by first | decide | omega) (Zr.ur (by first | decide | omega) (Zr.ur (by first | decide | omega) (Zr.ur (by first | decide | omega) (Zr.ur (by first | decide | omega) (Zr.ur (by first | decide | omega) (Zr.ur (by first | decide | omega) (Zr.ur (by first | decide | omega) (Zr.ur (by first | decide | omega) (Zr.ur (by first | decide | omega) (Zr.ur (by first | decide | omega) (Zr.ur (by first | decide | omega) (Zr.ur (by first | decide | omega) (Zr.ur (by first | decide | omega) (Zr.ur (by first | decide | omega) (Zr.ur (by first | decide | omega) (Zr.ur (by first | decide | omega) (Zr.mono hZ (by first | decide | omega)))))))))))))))))))))))) ?_
  refine V_putFR kk104 (by decide) fl_X12_87 rfl (by decide) dX12_init_1075 ?_
  refine V_al0n dX12_init_1078 ?_
  refine V_sipush dX12_init_1079 rfl ?_
  refine V_newarrZ (ty := .int) kk130 (by decide) (by decide) ac_int rfl (by decide) (by decide) (by decide) dX12_init_1082 (Zr.ur (by first | decide | omega) (Zr.ur (by first | decide | omega) (Zr.ur (by first | decide | omega) (Zr.ur (by first | decide | omega) (Zr.ur (by first | decide | omega) (Zr.ur (by first | decide | omega) (Zr.ur (by first | decide | omega) (Zr.ur (by first | decide | omega) (Zr.ur (by first | decide | omega) (Zr.ur (by first | decide | omega) (Zr.ur (by first | decide | omega) (Zr.ur (by first | decide | omega) (Zr.ur (by first | decide | omega) (Zr.ur (by first | decide | omega) (Zr.ur (by first | decide | omega) (Zr.ur (by first | decide | omega) (Zr.ur (by first | decide | omega) (Zr.ur (by first | decide | omega) (Zr.ur (by first | decide | omega) (Zr.ur (by first | decide | omega) (Zr.ur (by first | decide | omega) (Zr.ur (by first | decide | omega) (Zr.ur (by first | decide | omega) (Zr.mono hZ (by first | decide | omega))))))))))))))))))))))))) ?_
  refine V_putFR kk104 (by decide) fl_X12_90 rfl (by decide) dX12_init_1084 ?_
  refine V_al0n dX12_init_1087 ?_
  refine V_sipush dX12_init_1088 rfl ?_
  refine V_newarrZ (ty := .int) kk131 (by decide) (by decide) ac_int rfl (by decide) (by decide) (by decide) dX12_init_1091 (Zr.ur (by first | decide | omega) (Zr.ur (by first | decide | omega) (Zr.ur (by first | decide | omega) (Zr.ur (by first | decide | omega) (Zr.ur (by first | decide | omega) (Zr.ur (by first | decide | omega) (Zr.ur (by first | decide | omega) (Zr.ur (by first | decide | omega) (Zr.ur (by first | decide | omega) (Zr.ur (by first | decide | omega) (Zr.ur (by first | decide | omega) (Zr.ur (by first | decide | omega) (Zr.ur (by first | decide | omega) (Zr.ur (by first | decide | omega) (Zr.ur (by first | decide | omega) (Zr.ur (by first | decide | omega) (Zr.ur (by first | decide | omega) (Zr.ur (by first | decide | omega) (Zr.ur (by first | decide | omega) (Zr.ur (by first | decide | omega) (Zr.ur (by first | decide | omega) (Zr.ur (by first | decide | omega) (Zr.ur (by first | decide | omega) (Zr.ur (by first | decide | omega) (Zr.mono hZ (by first | decide | omega)))))))))))))))))))))))))) ?_
  refine V_putFR kk104 (by decide) fl_X12_93 rfl (by decide) dX12_init_1093 ?_
  refine V_al0n dX12_init_1096 ?_
  refine V_sipush dX12_init_1097 rfl ?_
  refine V_newarrZ (ty := .int) kk132 (by decide) (by decide) ac_int rfl (by decide) (by decide) (by decide) dX12_init_1100 (Zr.ur (by first | decide | omega) (Zr.ur (by first | decide | omega) (Zr.ur (by first | decide | omega) (Zr.ur (by first | decide | omega) (Zr.ur (by first | decide | omega) (Zr.ur (by first | decide | omega) (Zr.ur (by first | decide | omega) (Zr.ur (by first | decide | omega) (Zr.ur (by first | decide | omega) (Zr.ur (by first | decide | omega) (Zr.ur (by first | decide | omega) (Zr.ur (by first | decide | omega) (Zr.ur (by first | decide | omega) (Zr.ur (by first | decide | omega) (Zr.ur (by first | decide | omega) (Zr.ur (by first | decide | omega) (Zr.ur (by first | decide | omega) (Zr.ur (by first | decide | omega) (Zr.ur (by first | decide | omega) (Zr.ur (by first | decide | omega) (Zr.ur (by first | decide | omega) (Zr.ur (by first | decide | omega) (Zr.ur (by first | decide | omega) (Zr.ur (by first | decide | omega) (Zr.ur (by first | decide | omega) (Zr.mono hZ (by first | decide | omega))))))))))))))))))))))))))) ?_
  refine V_putFR kk104 (by decide) fl_X12_96 rfl (by decide) dX12_init_1102 ?_
  refine V_al0n dX12_init_1105 ?_
  refine V_bipush dX12_init_1106 rfl ?_
  refine V_newarrZ (ty := .int) kk133 (by decide) (by decide) ac_int rfl (by decide) (by decide) (by decide) dX12_init_1108 (Zr.ur (by first | decide | omega) (Zr.ur (by first | decide | omega) (Zr.ur (by first | decide | omega) (Zr.ur (by first | decide | omega) (Zr.ur (by first | decide | omega) (Zr.ur (by first | decide | omega) (Zr.ur (by first | decide | omega) (Zr.ur (by first | decide | omega) (Zr.ur (by first | decide | omega) (Zr.ur (by first | decide | omega) (Zr.ur (by first | decide | omega) (Zr.ur (by first | decide | omega) (Zr.ur (by first | decide | omega) (Zr.ur (by first | decide | omega) (Zr.ur (by first | decide | omega) (Zr.ur (by first | decide | omega) (Zr.ur (by first | decide | omega) (Zr.ur (by first | decide | omega) (Zr.ur (by first | decide | omega) (Zr.ur (by first | decide | omega) (Zr.ur (by first | decide | omega) (Zr.ur (by first | decide | omega) (Zr.ur (by first | decide | omega) (Zr.ur (by first | decide | omega) (Zr.ur (by first | decide | omega) (Zr.ur (by first | decide | omega) (Zr.mono hZ (by first | decide | omega)))))))))))))))))))))))))))) ?_
  refine V_putFR kk104 (by decide) fl_X12_99 rfl (by decide) dX12_init_1110 ?_
  refine V_al0n dX12_init_1113 ?_
  refine V_bipush dX12_init_1114 rfl ?_
  refine V_newarrZ (ty := .int) kk134 (by decide) (by decide) ac_int rfl (by decide) (by decide) (by decide) dX12_init_1116 (Zr.ur (by first | decide | omega) (Zr.ur (by first | decide | omega) (Zr.ur (by first | decide | omega) (Zr.ur (by first | decide | omega) (Zr.ur (by first | decide | omega) (Zr.ur (by first | decide | omega) (Zr.ur (by first | decide | omega) (Zr.ur (by first | decide | omega) (Zr.ur (by first | decide | omega) (Zr.ur (by first | decide | omega) (Zr.ur (by first | decide | omega) (Zr.ur (by first | decide | omega) (Zr.ur (by first | decide | omega) (Zr.ur (by first | decide | omega) (Zr.ur (by first | decide | omega) (Zr.ur (by first | decide | omega) (Zr.ur (by first | decide | omega) (Zr.ur (by first | decide | omega) (Zr.ur (by first | decide | omega) (Zr.ur (by first | decide | omega) (Zr.ur (by first | decide | omega) (Zr.ur (by first | decide | omega) (Zr.ur (by first | decide | omega) (Zr.ur (by first | decide | omega) (Zr.ur (by first | decide | omega) (Zr.ur (by first | decide | omega) (Zr.ur (by first | decide | omega) (Zr.mono hZ (by first | decide | omega))))))))))))))))))))))))))))) ?_
  refine V_putFR kk104 (by decide) fl_X12_102 rfl (by decide) dX12_init_1118 ?_
  refine V_al0n dX12_init_1121 ?_
  refine V_bipush dX12_init_1122 rfl ?_
  refine V_newarrZ (ty := .int) kk135 (by decide) (by decide) ac_long rfl (by decide) (by decide) (by decide) dX12_init_1124 (Zr.ur (by first | decide | omega) (Zr.ur (by first | decide | omega) (Zr.ur (by first | decide | omega) (Zr.ur (by first | decide | omega) (Zr.ur (by first | decide | omega) (Zr.ur (by first | decide | omega) (Zr.ur (by first | decide | omega) (Zr.ur (by first | decide | omega) (Zr.ur (by first | decide | omega) (Zr.ur (by first | decide | omega) (Zr.ur (by first | decide | omega) (Zr.ur (by first | decide | omega) (Zr.ur (by first | decide | omega) (Zr.ur (by first | decide | omega) (Zr.ur (by first | decide | omega) (Zr.ur (by first | decide | omega) (Zr.ur (by first | decide | omega) (Zr.ur (by first | decide | omega) (Zr.ur (by first | decide | omega) (Zr.ur (by first | decide | omega) (Zr.ur (by first | decide | omega) (Zr.ur (by first | decide | omega) (Zr.ur (by first | decide | omega) (Zr.ur (by first | decide | omega) (Zr.ur (by first | decide | omega) (Zr.ur (by first | decide | omega) (Zr.ur (by first | decide | omega) (Zr.ur (by first | decide | omega) (Zr.mono hZ (by first | decide | omega)))))))))))))))))))))))))))))) ?_
  refine V_putFR kk104 (by decide) fl_X12_105 rfl (by decide) dX12_init_1126 ?_
  refine V_al0n dX12_init_1129 ?_
  refine V_bipush dX12_init_1130 rfl ?_
  refine V_newarrZ (ty := .int) kk136 (by decide) (by decide) ac_long rfl (by decide) (by decide) (by decide) dX12_init_1132 (Zr.ur (by first | decide | omega) (Zr.ur (by first | decide | omega) (Zr.ur (by first | decide | omega) (Zr.ur (by first | decide | omega) (Zr.ur (by first | decide | omega) (Zr.ur (by first | decide | omega) (Zr.ur (by first | decide | omega) (Zr.ur (by first | decide | omega) (Zr.ur (by first | decide | omega) (Zr.ur (by first | decide | omega) (Zr.ur (by first | decide | omega) (Zr.ur (by first | decide | omega) (Zr.ur (by first | decide | omega) (Zr.ur (by first | decide | omega) (Zr.ur (by first | decide | omega) (Zr.ur (by first | decide | omega) (Zr.ur (by first | decide | omega) (Zr.ur (by first | decide | omega) (Zr.ur (by first | decide | omega) (Zr.ur (by first | decide | omega) (Zr.ur (by first | decide | omega) (Zr.ur (by first | decide | omega) (Zr.ur (by first | decide | omega) (Zr.ur (by first | decide | omega) (Zr.ur (by first | decide | omega) (Zr.ur (by first | decide | omega) (Zr.ur (by first | decide | omega) (Zr.ur (by first | decide | omega) (Zr.ur (by first | decide | omega) (Zr.mono hZ (by first | decide | omega))))))))))))))))))))))))))))))) ?_
  refine V_putFR kk104 (by decide) fl_X12_109 rfl (by decide) dX12_init_1134 ?_
  refine V_al0n dX12_init_1137 ?_
  refine V_bipush dX12_init_1138 rfl ?_
  refine V_newarrZ (ty := .int) kk137 (by decide) (by decide) ac_int rfl (by decide) (by decide) (by decide) dX12_init_1140 (Zr.ur (by first | decide | omega) (Zr.ur (by first | decide | omega) (Zr.ur (by first | decide | omega) (Zr.ur (by first | decide | omega) (Zr.ur (by first | decide | omega) (Zr.ur (by first | decide | omega) (Zr.ur (by first | decide | omega) (Zr.ur (by first | decide | omega) (Zr.ur (by first | decide | omega) (Zr.ur (by first | decide | omega) (Zr.ur (by first | decide | omega) (Zr.ur (by first | decide | omega) (Zr.ur (by first | decide | omega) (Zr.ur (by first | decide | omega) (Zr.ur (by first | decide | omega) (Zr.ur (by first | decide | omega) (Zr.ur (by first | decide | omega) (Zr.ur (by first | decide | omega) (Zr.ur (by first | decide | omega) (Zr.ur (by first | decide | omega) (Zr.ur (by first | decide | omega) (Zr.ur (by first | decide | omega) (Zr.ur (by first | decide | omega) (Zr.ur (by first | decide | omega) (Zr.ur (by first | decide | omega) (Zr.ur (by first | decide | omega) (Zr.ur (by first | decide | omega) (Zr.ur (by first | decide | omega) (Zr.ur (by first | decide | omega) (Zr.ur (by first | decide | omega) (Zr.mono hZ (by first | decide | omega)))))))))))))))))))))))))))))))) ?_
  refine V_putFR kk104 (by decide) fl_X12_112 rfl (by decide) dX12_init_1142 ?_
  refine V_al0n dX12_init_1145 ?_
  refine V_sipush dX12_init_1146 rfl ?_
  refine V_newarrZ (ty := .int) kk138 (by decide) (by decide) ac_int rfl (by decide) (by decide) (by decide) dX12_init_1149 (Zr.ur (by first | decide | omega) (Zr.ur (by first | decide | omega) (Zr.ur (by first | decide | omega) (Zr.ur (by first | decide | omega) (Zr.ur (by first | decide | omega) (Zr.ur (by first | decide | omega) (Zr.ur (by first | decide | omega) (Zr.ur (by first | decide | omega) (Zr.ur (by first | decide | omega) (Zr.ur (by first | decide | omega) (Zr.ur (by first | decide | omega) (Zr.ur (by first | decide | omega) (Zr.ur (by first | decide | omega) (Zr.ur (by first | decide | omega) (Zr.ur (by first | decide | omega) (Zr.ur (by first | decide | omega) (Zr.ur (by first | decide | omega) (Zr.ur (by first | decide | omega) (Zr.ur (by first | decide | omega) (Zr.ur (by first | decide | omega) (Zr.ur (by first | decide | omega) (Zr.ur (by first | decide | omega) (Zr.ur (by first | decide | omega) (Zr.ur (by first | decide | omega) (Zr.ur (by first | decide | omega) (Zr.ur (by first | decide | omega) (Zr.ur (by first | decide | omega) (Zr.ur (by first | decide | omega) (Zr.ur (by first | decide | omega) (Zr.ur (by first | decide | omega) (Zr.ur (by first | decide | omega) (Zr.mono hZ (by first | decide | omega))))))))))))))))))))))))))))))))) ?_
  refine V_putFR kk104 (by decide) fl_X12_115 rfl (by decide) dX12_init_1151 ?_
  refine V_al0n dX12_init_1154 ?_
  refine V_sipush dX12_init_1155 rfl ?_
  refine V_newarrZ (ty := .int) kk139 (by decide) (by decide) ac_boolean rfl (by decide) (by decide) (by decide) dX12_init_1158 (Zr.ur (by first | decide | omega) (Zr.ur (by first | decide | omega) (Zr.ur (by first | decide | omega) (Zr.ur (by first | decide | omega) (Zr.ur (by first | decide | omega) (Zr.ur (by first | decide | omega) (Zr.ur (by first | decide | omega) (Zr.ur (by first | decide | omega) (Zr.ur (by first | decide | omega) (Zr.ur (by first | decide | omega) (Zr.ur (by first | decide | omega) (Zr.ur (by first | decide | omega) (Zr.ur (by first | decide | omega) (Zr.ur (by first | decide | omega) (Zr.ur (by first | decide | omega) (Zr.ur (by first | decide | omega) (Zr.ur (by first | decide | omega) (Zr.ur (by first | decide | omega) (Zr.ur (by first | decide | omega) (Zr.ur (by first | decide | omega) (Zr.ur (by first | decide | omega) (Zr.ur (by first | decide | omega) (Zr.ur (by first | decide | omega) (Zr.ur (by first | decide | omega) (Zr.ur (by first | decide | omega) (Zr.ur (by first | decide | omega) (Zr.ur (by first | decide | omega) (Zr.ur (by first | decide | omega) (Zr.ur (by first | decide | omega) (Zr.ur (by first | decide | omega) (Zr.ur (by first | decide | omega) (Zr.ur (by first | decide | omega) (Zr.mono hZ (by first | decide | omega)))))))))))))))))))))))))))))))))) ?_
  refine V_putFR kk104 (by decide) fl_X12_118 rfl (by decide) dX12_init_1160 ?_
  refine V_al0n dX12_init_1163 ?_
  refine V_sipush dX12_init_1164 rfl ?_
  refine V_newarrZ (ty := .int) kk140 (by decide) (by decide) ac_int rfl (by decide) (by decide) (by decide) dX12_init_1167 (Zr.ur (by first | decide | omega) (Zr.ur (by first | decide | omega) (Zr.ur (by first | decide | omega) (Zr.ur (by first | decide | omega) (Zr.ur (by first | decide | omega) (Zr.ur (by first | decide | omega) (Zr.ur (by first | decide | omega) (Zr.ur (by first | decide | omega) (Zr.ur (by first | decide | omega) (Zr.ur (by first | decide | omega) (Zr.ur (by first | decide | omega) (Zr.ur (by first | decide | omega) (Zr.ur (by first | decide | omega) (Zr.ur (by first | decide | omega) (Zr.ur (by first | decide | omega) (Zr.ur (by first | decide | omega) (Zr.ur (by first | decide | omega) (Zr.ur (by first | decide | omega) (Zr.ur (by first | decide | omega) (Zr.ur (by first | decide | omega) (Zr.ur (by first | decide | omega) (Zr.ur (by first | decide | omega) (Zr.ur (by first | decide | omega) (Zr.ur (by first | decide | omega) (Zr.ur (by first | decide | omega) (Zr.ur (by first | decide | omega) (Zr.ur (by first | decide | omega) (Zr.ur (by first | decide | omega) (Zr.ur (by first | decide | omega) (Zr.ur (by first | decide | omega) (Zr.ur (by first | decide | omega) (Zr.ur (by first | decide | omega) (Zr.ur (by first | decide | omega) (Zr.mono hZ (by first | decide | omega))))))))))))))))))))))))))))))))))) ?_
  refine V_putFR kk104 (by decide) fl_X12_121 rfl (by decide) dX12_init_1169 ?_
  refine V_al0n dX12_init_1172 ?_
  refine V_sipush dX12_init_1173 rfl ?_
  refine V_newarrZ (ty := .int) kk141 (by decide) (by decide) ac_int rfl (by decide) (by decide) (by decide) dX12_init_1176 (Zr.ur (by first | decide | omega) (Zr.ur (by first | decide | omega) (Zr.ur (by first | decide | omega) (Zr.ur (by first | decide | omega) (Zr.ur (by first | decide | omega) (Zr.ur (by first | decide | omega) (Zr.ur (by first | decide | omega) (Zr.ur (by first | decide | omega) (Zr.ur (by first | decide | omega) (Zr.ur (by first | decide | omega) (Zr.ur (by first | decide | omega) (Zr.ur (by first | decide | omega) (Zr.ur (by first | decide | omega) (Zr.ur (by first | decide | omega) (Zr.ur (by first | decide | omega) (Zr.ur (by first | decide | omega) (Zr.ur (by first | decide | omega) (Zr.ur (by first | decide | omega) (Zr.ur (by first | decide | omega) (Zr.ur (by first | decide | omega) (Zr.ur (by first | decide | omega) (Zr.ur (by first | decide | omega) (Zr.ur (by first | decide | omega) (Zr.ur (by first | decide | omega) (Zr.ur (by first | decide | omega) (Zr.ur (by first | decide | omega) (Zr.ur (by first | decide | omega) (Zr.ur (by first | decide | omega) (Zr.ur (by first | decide | omega) (Zr.ur (by first | decide | omega) (Zr.ur (by first | decide | omega) (Zr.ur (by first | decide | omega) (Zr.ur (by first | decide | omega) (Zr.ur (by first | decide | omega) (Zr.mono hZ (by first | decide | omega)))))))))))))))))))))))))))))))))))) ?_
  refine V_putFR kk104 (by decide) fl_X12_124 rfl (by decide) dX12_init_1178 ?_
  refine V_al0n dX12_init_1181 ?_
  refine V_iconst dX12_init_1182 ?_
  refine V_putI kk104 (by decide) fl_X12_127 rfl dX12_init_1183 ?_
  refine V_al0n dX12_init_1186 ?_
  refine V_bipush dX12_init_1187 rfl ?_
  refine V_newarrZ (ty := .int) kk142 (by decide) (by decide) ac_int rfl (by decide) (by decide) (by decide) dX12_init_1189 (Zr.ui (by first | decide | omega) (Zr.ur (by first | decide | omega) (Zr.ur (by first | decide | omega) (Zr.ur (by first | decide | omega) (Zr.ur (by first | decide | omega) (Zr.ur (by first | decide | omega) (Zr.ur (by first | decide | omega) (Zr.ur (by first | decide | omega) (Zr.ur (by first | decide | omega) (Zr.ur (by first | decide | omega) (Zr.ur (by first | decide | omega) (Zr.ur (by first | decide | omega) (Zr.ur (by first | decide | omega) (Zr.ur (by first | decide | omega) (Zr.ur (by first | decide | omega) (Zr.ur (by first | decide | omega) (Zr.ur (by first | decide | omega) (Zr.ur (by first | decide | omega) (Zr.ur (by first | decide | omega) (Zr.ur (by first | decide | omega) (Zr.ur (by first | decide | omega) (Zr.ur (by first | decide | omega) (Zr.ur (by first | decide | omega) (Zr.ur (by first | decide | omega) (Zr.ur (by first | decide | omega) (Zr.ur (by first | decide | omega) (Zr.ur (by first | decide | omega) (Zr.ur (by first | decide | omega) (Zr.ur (by first | decide | omega) (Zr.ur (by first | decide | omega) (Zr.ur (by first | decide | omega) (Zr.ur (by first | decide | omega) (Zr.ur (by first | decide | omega) (Zr.ur (by first | decide | omega) (Zr.ur (by first | decide | omega) (Zr.ur (by first | decide | omega) (Zr.mono hZ (by first | decide | omega)))))))))))))))))))))))))))))))))))))) ?_
  refine V_putFR kk104 (by decide) fl_X12_130 rfl (by decide) dX12_init_1191 ?_
  refine V_al0n dX12_init_1194 ?_
  refine V_bipush dX12_init_1195 rfl ?_
  refine V_newarrZ (ty := .int) kk143 (by decide) (by decide) ac_boolean rfl (by decide) (by decide) (by decide) dX12_init_1197 (Zr.ui (by first | decide | omega) (Zr.ur (by first | decide | omega) (Zr.ur (by first | decide | omega) (Zr.ur (by first | decide | omega) (Zr.ur (by first | decide | omega) (Zr.ur (by first | decide | omega) (Zr.ur (by first | decide | omega) (Zr.ur (by first | decide | omega) (Zr.ur (by first | decide | omega) (Zr.ur (by first | decide | omega) (Zr.ur (by first | decide | omega) (Zr.ur (by first | decide | omega) (Zr.ur (by first | decide | omega) (Zr.ur (by first | decide | omega) (Zr.ur (by first | decide | omega) (Zr.ur (by first | decide | omega) (Zr.ur (by first | decide | omega) (Zr.ur (by first | decide | omega) (Zr.ur (by first | decide | omega) (Zr.ur (by first | decide | omega) (Zr.ur (by first | decide | omega) (Zr.ur (by first | decide | omega) (Zr.ur (by first | decide | omega) (Zr.ur (by first | decide | omega) (Zr.ur (by first | decide | omega) (Zr.ur (by first | decide | omega) (Zr.ur (by first | decide | omega) (Zr.ur (by first | decide | omega) (Zr.ur (by first | decide | omega) (Zr.ur (by first | decide | omega) (Zr.ur (by first | decide | omega) (Zr.ur (by first | decide | omega) (Zr.ur (by first | decide | omega) (Zr.ur (by first | decide | omega) (Zr.ur (by first | decide | omega) (Zr.ur (by first | decide | omega) (Zr.ur (by first | decide | omega) (Zr.mono hZ (by first | decide | omega))))))))))))))))))))))))))))))))))))))) ?_
  refine V_putFR kk104 (by decide) fl_X12_133 rfl (by decide) dX12_init_1199 ?_
  refine V_al0n dX12_init_1202 ?_
  refine V_iconst dX12_init_1203 ?_
  refine V_newarrZ (ty := .int) kk144 (by decide) (by decide) ac_int rfl (by decide) (by decide) (by decide) dX12_init_1204 (Zr.ui (by first | decide | omega) (Zr.ur (by first | decide | omega) (Zr.ur (by first | decide | omega) (Zr.ur (by first | decide | omega) (Zr.ur (by first | decide | omega) (Zr.ur (by first | decide | omega) (Zr.ur (by first | decide | omega) (Zr.ur (by first | decide | omega) (Zr.ur (by first | decide | omega) (Zr.ur (by first | decide | omega) (Zr.ur (by first | decide | omega) (Zr.ur (by first | decide | omega) (Zr.ur (by first | decide | omega) (Zr.ur (by first | decide | omega) (Zr.ur (by first | decide | omega) (Zr.ur (by first | decide | omega) (Zr.ur (by first | decide | omega) (Zr.ur (by first | decide | omega) (Zr.ur (by first | decide | omega) (Zr.ur (by first | decide | omega) (Zr.ur (by first | decide | omega) (Zr.ur (by first | decide | omega) (Zr.ur (by first | decide | omega) (Zr.ur (by first | decide | omega) (Zr.ur (by first | decide | omega) (Zr.ur (by first | decide | omega) (Zr.ur (by first | decide | omega) (Zr.ur (by first | decide | omega) (Zr.ur (by first | decide | omega) (Zr.ur (by first | decide | omega) (Zr.ur (by first | decide | omega) (Zr.ur (by first | decide | omega) (Zr.ur (by first | decide | omega) (Zr.ur (by first | decide | omega) (Zr.ur (by first | decide | omega) (Zr.ur (by first | decide | omega) (Zr.ur (by first | decide | omega) (Zr.ur (by first | decide | omega) (Zr.mono hZ (by first | decide | omega)))))))))))))))))))))))))))))))))))))))) ?_
  refine V_putFR kk104 (by decide) fl_X12_136 rfl (by decide) dX12_init_1206 ?_
  refine V_al0n dX12_init_1209 ?_
  refine V_iconst dX12_init_1210 ?_
  refine V_newarrZ (ty := .int) kk145 (by decide) (by decide) ac_int rfl (by decide) (by decide) (by decide) dX12_init_1211 (Zr.ui (by first | decide | omega) (Zr.ur (by first | decide | omega) (Zr.ur (by first | decide | omega) (Zr.ur (by first | decide | omega) (Zr.ur (by first | decide | omega) (Zr.ur (by first | decide | omega) (Zr.ur (by first | decide | omega) (Zr.ur (by first | decide | omega) (Zr.ur (by first | decide | omega) (Zr.ur (by first | decide | omega) (Zr.ur (by first | decide | omega) (Zr.ur (by first | decide | omega) (Zr.ur (by first | decide | omega) (Zr.ur (by first | decide | omega) (Zr.ur (by first | decide | omega) (Zr.ur (by first | decide | omega) (Zr.ur (by first | decide | omega) (Zr.ur (by first | decide | omega) (Zr.ur (by first | decide | omega) (Zr.ur (by first | decide | omega) (Zr.ur (by first | decide | omega) (Zr.ur (by first | decide | omega) (Zr.ur (by first | decide | omega) (Zr.ur (by first | decide | omega) (Zr.ur (by first | decide | omega) (Zr.ur (by first | decide | omega) (Zr.ur (by first | decide | omega) (Zr.ur (by first | decide | omega) (Zr.ur (by first | decide | omega) (Zr.ur (by first | decide | omega) (Zr.ur (by first | decide | omega) (Zr.ur (by first | decide | omega) (Zr.ur (by first | decide | omega) (Zr.ur (by first | decide | omega) (Zr.ur (by first | decide | omega) (Zr.ur (by first | decide | omega) (Zr.ur (by first | decide | omega) (Zr.ur (by first | decide | omega) (Zr.ur (by first | decide | omega) (Zr.mono hZ (by first | decide | omega))))))))))))))))))))))))))))))))))))))))) ?_
  refine V_putFR kk104 (by decide) fl_X12_139 rfl (by decide) dX12_init_1213 ?_
  refine V_al0n dX12_init_1216 ?_
  refine V_iconst dX12_init_1217 ?_
  refine V_newarrZ (ty := .int) kk146 (by decide) (by decide) ac_int rfl (by decide) (by decide) (by decide) dX12_init_1218 (Zr.ui (by first | decide | omega) (Zr.ur (by first | decide | omega) (Zr.ur (by first | decide | omega) (Zr.ur (by first | decide | omega) (Zr.ur (by first | decide | omega) (Zr.ur (by first | decide | omega) (Zr.ur (by first | decide | omega) (Zr.ur (by first | decide | omega) (Zr.ur (by first | decide | omega) (Zr.ur (by first | decide | omega) (Zr.ur (by first | decide | omega) (Zr.ur (by first | decide | omega) (Zr.ur (by first | decide | omega) (Zr.ur (by first | decide | omega) (Zr.ur (by first | decide | omega) (Zr.ur (by first | decide | omega) (Zr.ur (by first | decide | omega) (Zr.ur (by first | decide | omega) (Zr.ur (by first | decide | omega) (Zr.ur (by first | decide | omega) (Zr.ur (by first | decide | omega) (Zr.ur (by first | decide | omega) (Zr.ur (by first | decide | omega) (Zr.ur (by first | decide | omega) (Zr.ur (by first | decide | omega) (Zr.ur (by first | decide | omega) (Zr.ur (by first | decide | omega) (Zr.ur (by first | decide | omega) (Zr.ur (by first | decide | omega) (Zr.ur (by first | decide | omega) (Zr.ur (by first | decide | omega) (Zr.ur (by first | decide | omega) (Zr.ur (by first | decide | omega) (Zr.ur (by first | decide | omega) (Zr.ur (by first | decide | omega) (Zr.ur (by first | decide | omega) (Zr.ur (by first | decide | omega) (Zr.ur (by first | decide | omega) (Zr.ur (by first | decide | omega) (Zr.ur (by first | decide | omega) (Zr.mono hZ (by first | decide | omega)))))))))))))))))))))))))))))))))))))))))) ?_
  refine V_putFR kk104 (by decide) fl_X12_142 rfl (by decide) dX12_init_1220 ?_
  refine V_al0n dX12_init_1223 ?_
  refine V_bipush dX12_init_1224 rfl ?_
  refine V_newarrZ (ty := .int) kk147 (by decide) (by decide) ac_int rfl (by decide) (by decide) (by decide) dX12_init_1226 (Zr.ui (by first | decide | omega) (Zr.ur (by first | decide | omega) (Zr.ur (by first | decide | omega) (Zr.ur (by first | decide | omega) (Zr.ur (by first | decide | omega) (Zr.ur (by first | decide | omega) (Zr.ur (by first | decide | omega) (Zr.ur (by first | decide | omega) (Zr.ur (by first | decide | omega) (Zr.ur (by first | decide | omega) (Zr.ur (by first | decide | omega) (Zr.ur (by first | decide | omega) (Zr.ur (by first | decide | omega) (Zr.ur (by first | decide | omega) (Zr.ur (by first | decide | omega) (Zr.ur (by first | decide | omega) (Zr.ur (by first | decide | omega) (Zr.ur (by first | decide | omega) (Zr.ur (by first | decide | omega) (Zr.ur (by first | decide | omega) (Zr.ur (by first | decide | omega) (Zr.ur (by first | decide | omega) (Zr.ur (by first | decide | omega) (Zr.ur (by first | decide | omega) (Zr.ur (by first | decide | omega) (Zr.ur (by first | decide | omega) (Zr.ur (by first | decide | omega) (Zr.ur (by first | decide | omega) (Zr.ur (by first | decide | omega) (Zr.ur (by first | decide | omega) (Zr.ur (by first | decide | omega) (Zr.ur (by first | decide | omega) (Zr.ur (by first | decide | omega) (Zr.ur (by first | decide | omega) (Zr.ur (by first | decide | omega) (Zr.ur (by first | decide | omega) (Zr.ur (by first | decide | omega) (Zr.ur (by first | decide | omega) (Zr.ur (by first | decide | omega) (Zr.ur (by first | decide | omega) (Zr.ur (by first | decide | omega) (Zr.mono hZ (by first | decide | omega))))))))))))))))))))))))))))))))))))))))))) ?_
  refine V_putFR kk104 (by decide) fl_X12_145 rfl (by decide) dX12_init_1228 ?_
  have zE : Zr 148 (mR2 ρ) (mI2 f) g := by
    unfold mR2 mI2
    exact (Zr.ui (by first | decide | omega) (Zr.ur (by first | decide | omega) (Zr.ur (by first | decide | omega) (Zr.ur (by first | decide | omega) (Zr.ur (by first | decide | omega) (Zr.ur (by first | decide | omega) (Zr.ur (by first | decide | omega) (Zr.ur (by first | decide | omega) (Zr.ur (by first | decide | omega) (Zr.ur (by first | decide | omega) (Zr.ur (by first | decide | omega) (Zr.ur (by first | decide | omega) (Zr.ur (by first | decide | omega) (Zr.ur (by first | decide | omega) (Zr.ur (by first | decide | omega) (Zr.ur (by first | decide | omega) (Zr.ur (by first | decide | omega) (Zr.ur (by first | decide | omega) (Zr.ur (by first | decide | omega) (Zr.ur (by first | decide | omega) (Zr.ur (by first | decide | omega) (Zr.ur (by first | decide | omega) (Zr.ur (by first | decide | omega) (Zr.ur (by first | decide | omega) (Zr.ur (by first | decide | omega) (Zr.ur (by first | decide | omega) (Zr.ur (by first | decide | omega) (Zr.ur (by first | decide | omega) (Zr.ur (by first | decide | omega) (Zr.ur (by first | decide | omega) (Zr.ur (by first | decide | omega) (Zr.ur (by first | decide | omega) (Zr.ur (by first | decide | omega) (Zr.ur (by first | decide | omega) (Zr.ur (by first | decide | omega) (Zr.ur (by first | decide | omega) (Zr.ur (by first | decide | omega) (Zr.ur (by first | decide | omega) (Zr.ur (by first | decide | omega) (Zr.ur (by first | decide | omega) (Zr.ur (by first | decide | omega) (Zr.ur (by first | decide | omega) (Zr.mono hZ (by first | decide | omega))))))))))))))))))))))))))))))))))))))))))))
  refine V_al0n dX12_init_1231 ?_
  refine V_callV (as := []) ml_X12_148 im_X12_plain se_X12_plain kk104 (by decide) (by decide) dX12_init_1232 rfl rfl (by decide) (by decide) (Nat.le_of_ble_eq_true rfl) (by decide) (by decide) rfl (c_plain8 hF) ?_
  refine pq4 ?_
  refine V_al0n dX12_init_1235 ?_
  refine V_callV (as := []) ml_X12_151 im_X12_keepText se_X12_keepText kk104 (by decide) (by decide) dX12_init_1236 rfl rfl (by decide) (by decide) (Nat.le_of_ble_eq_true rfl) (by decide) (by decide) rfl (c_keepText8 hF hR (by show ri (plnF (mI2 f) 104 27); rw [h27]; unfold ri; omega)) ?_
  refine pq4 ?_
  exact V_return rfl (hQ (pk_zr (Nat.le_refl _) zE)) dX12_init_1239
theorem cn_104 (hF : Fx (mR2 (mR1 ρ))) (hZ : Zr 105 ρ f g) : Ct yX12_init cX12_init 1 none 2 43 54607 105 148 [.ref 104] ρ f g (fun r ρ' f' g' => r = none ∧ ρ' = mR2 (mR1 ρ) ∧ f' = kpF (plnF (mI2 (mI1 f))) ∧ g' = kpG (plnF (mI2 (mI1 f))) g ∧ Zr 148 ρ' f' g') := by
  refine Ct.ofV (by decide) rfl (Nat.le_of_ble_eq_true rfl) ?_
  refine V_al0n dX12_init_0 ?_
  refine V_objInit mo_X12_1 io_obj co_obj (by decide) (Nat.le_of_ble_eq_true rfl) dX12_init_1 ?_
  refine V_al0n dX12_init_4 ?_
  refine V_sipush dX12_init_5 rfl ?_
  refine V_newarrZ (ty := .int) kk105 (by decide) (by decide) ac_int rfl (by decide) (by decide) (by decide) dX12_init_8 (Zr.mono hZ (by first | decide | omega)) ?_
  refine V_putFR kk104 (by decide) fl_X12_7 rfl (by decide) dX12_init_10 ?_
  refine V_al0n dX12_init_13 ?_
  refine V_sipush dX12_init_14 rfl ?_
  refine V_newarrZ (ty := .int) kk106 (by decide) (by decide) ac_int rfl (by decide) (by decide) (by decide) dX12_init_17 (Zr.ur (by first | decide | omega) (Zr.mono hZ (by first | decide | omega))) ?_
  refine V_dup dX12_init_19 rfl ?_
  refine V_iconst dX12_init_20 ?_
  refine V_bipush dX12_init_21 rfl ?_
  refine V_iast (k := 0) kk106 (by decide) (by first | rfl | omega) (by omega) (by first | decide | assumption | omega) dX12_init_23 ?_
  refine V_dup dX12_init_24 rfl ?_
  refine V_iconst dX12_init_25 ?_
  refine V_bipush dX12_init_26 rfl ?_
  refine V_iast (k := 1) kk106 (by decide) (by first | rfl | omega) (by omega) (by first | decide | assumption | omega) dX12_init_28 ?_
  refine V_dup dX12_init_29 rfl ?_
  refine V_iconst dX12_init_30 ?_
  refine V_bipush dX12_init_31 rfl ?_
  refine V_iast (k := 2) kk106 (by decide) (by first | rfl | omega) (by omega) (by first | decide | assumption | omega) dX12_init_33 ?_
  refine V_dup dX12_init_34 rfl ?_
  refine V_iconst dX12_init_35 ?_
  refine V_bipush dX12_init_36 rfl ?_
  refine V_iast (k := 3) kk106 (by decide) (by first | rfl | omega) (by omega) (by first | decide | assumption | omega) dX12_init_38 ?_
  refine V_dup dX12_init_39 rfl ?_
  refine V_iconst dX12_init_40 ?_
  refine V_bipush dX12_init_41 rfl ?_
  refine V_iast (k := 4) kk106 (by decide) (by first | rfl | omega) (by omega) (by first | decide | assumption | omega) dX12_init_43 ?_
  refine V_dup dX12_init_44 rfl ?_
  refine V_iconst dX12_init_45 ?_
  refine V_bipush dX12_init_46 rfl ?_
  refine V_iast (k := 5) kk106 (by decide) (by first | rfl | omega) (by omega) (by first | decide | assumption | omega) dX12_init_48 ?_
  refine V_dup dX12_init_49 rfl ?_
  refine V_bipush dX12_init_50 rfl ?_
  refine V_bipush dX12_init_52 rfl ?_
  refine V_iast (k := 6) kk106 (by decide) (by first | rfl | omega) (by omega) (by first | decide | assumption | omega) dX12_init_54 ?_
  refine V_dup dX12_init_55 rfl ?_
  refine V_bipush dX12_init_56 rfl ?_
  refine V_bipush dX12_init_58 rfl ?_
  refine V_iast (k := 7) kk106 (by decide) (by first | rfl | omega) (by omega) (by first | decide | assumption | omega) dX12_init_60 ?_
  refine V_dup dX12_init_61 rfl ?_
  refine V_bipush dX12_init_62 rfl ?_
  refine V_bipush dX12_init_64 rfl ?_
  refine V_iast (k := 8) kk106 (by decide) (by first | rfl | omega) (by omega) (by first | decide | assumption | omega) dX12_init_66 ?_
  refine V_dup dX12_init_67 rfl ?_
  refine V_bipush dX12_init_68 rfl ?_
  refine V_bipush dX12_init_70 rfl ?_
  refine V_iast (k := 9) kk106 (by decide) (by first | rfl | omega) (by omega) (by first | decide | assumption | omega) dX12_init_72 ?_
  refine V_dup dX12_init_73 rfl ?_
  refine V_bipush dX12_init_74 rfl ?_
  refine V_bipush dX12_init_76 rfl ?_
  refine V_iast (k := 10) kk106 (by decide) (by first | rfl | omega) (by omega) (by first | decide | assumption | omega) dX12_init_78 ?_
  refine V_dup dX12_init_79 rfl ?_
  refine V_bipush dX12_init_80 rfl ?_
  refine V_bipush dX12_init_82 rfl ?_
  refine V_iast (k := 11) kk106 (by decide) (by first | rfl | omega) (by omega) (by first | decide | assumption | omega) dX12_init_84 ?_
  refine V_dup dX12_init_85 rfl ?_
  refine V_bipush dX12_init_86 rfl ?_
  refine V_bipush dX12_init_88 rfl ?_
  refine V_iast (k := 12) kk106 (by decide) (by first | rfl | omega) (by omega) (by first | decide | assumption | omega) dX12_init_90 ?_
  refine V_dup dX12_init_91 rfl ?_
  refine V_bipush dX12_init_92 rfl ?_
  refine V_bipush dX12_init_94 rfl ?_
  refine V_iast (k := 13) kk106 (by decide) (by first | rfl | omega) (by omega) (by first | decide | assumption | omega) dX12_init_96 ?_
  refine V_dup dX12_init_97 rfl ?_
  refine V_bipush dX12_init_98 rfl ?_
  refine V_bipush dX12_init_100 rfl ?_
  refine V_iast (k := 14) kk106 (by decide) (by first | rfl | omega) (by omega) (by first | decide | assumption | omega) dX12_init_102 ?_
  refine V_dup dX12_init_103 rfl ?_
  refine V_bipush dX12_init_104 rfl ?_
  refine V_bipush dX12_init_106 rfl ?_
  refine V_iast (k := 15) kk106 (by decide) (by first | rfl | omega) (by omega) (by first | decide | assumption | omega) dX12_init_108 ?_
  refine V_dup dX12_init_109 rfl ?_
  refine V_bipush dX12_init_110 rfl ?_
  refine V_bipush dX12_init_112 rfl ?_
  refine V_iast (k := 16) kk106 (by decide) (by first | rfl | omega) (by omega) (by first | decide | assumption | omega) dX12_init_114 ?_
  refine V_dup dX12_init_115 rfl ?_
  refine V_bipush dX12_init_116 rfl ?_
  refine V_bipush dX12_init_118 rfl ?_
  refine V_iast (k := 17) kk106 (by decide) (by first | rfl | omega) (by omega) (by first | decide | assumption | omega) dX12_init_120 ?_
  refine V_dup dX12_init_121 rfl ?_
  refine V_bipush dX12_init_122 rfl ?_
  refine V_bipush dX12_init_124 rfl ?_
  refine V_iast (k := 18) kk106 (by decide) (by first | rfl | omega) (by omega) (by first | decide | assumption | omega) dX12_init_126 ?_
  refine V_dup dX12_init_127 rfl ?_
  refine V_bipush dX12_init_128 rfl ?_
  refine V_bipush dX12_init_130 rfl ?_
  refine V_iast (k := 19) kk106 (by decide) (by first | rfl | omega) (by omega) (by first | decide | assumption | omega) dX12_init_132 ?_
  refine V_dup dX12_init_133 rfl ?_
  refine V_bipush dX12_init_134 rfl ?_
  refine V_bipush dX12_init_136 rfl ?_
  refine V_iast (k := 20) kk106 (by decide) (by first | rfl | omega) (by omega) (by first | decide | assumption | omega) dX12_init_138 ?_
  refine V_dup dX12_init_139 rfl ?_
  refine V_bipush dX12_init_140 rfl ?_
  refine V_bipush dX12_init_142 rfl ?_
  refine V_iast (k := 21) kk106 (by decide) (by first | rfl | omega) (by omega) (by first | decide | assumption | omega) dX12_init_144 ?_
  refine V_dup dX12_init_145 rfl ?_
  refine V_bipush dX12_init_146 rfl ?_
  refine V_bipush dX12_init_148 rfl ?_
  refine V_iast (k := 22) kk106 (by decide) (by first | rfl | omega) (by omega) (by first | decide | assumption | omega) dX12_init_150 ?_
  refine V_dup dX12_init_151 rfl ?_
  refine V_bipush dX12_init_152 rfl ?_
  refine V_bipush dX12_init_154 rfl ?_
  refine V_iast (k := 23) kk106 (by decide) (by first | rfl | omega) (by omega) (by first | decide | assumption | omega) dX12_init_156 ?_
  refine V_dup dX12_init_157 rfl ?_
  refine V_bipush dX12_init_158 rfl ?_
  refine V_bipush dX12_init_160 rfl ?_
  refine V_iast (k := 24) kk106 (by decide) (by first | rfl | omega) (by omega) (by first | decide | assumption | omega) dX12_init_162 ?_
  refine V_dup dX12_init_163 rfl ?_
  refine V_bipush dX12_init_164 rfl ?_
  refine V_bipush dX12_init_166 rfl ?_
  refine V_iast (k := 25) kk106 (by decide) (by first | rfl | omega) (by omega) (by first | decide | assumption | omega) dX12_init_168 ?_
  refine V_dup dX12_init_169 rfl ?_
  refine V_bipush dX12_init_170 rfl ?_
  refine V_bipush dX12_init_172 rfl ?_
  refine V_iast (k := 26) kk106 (by decide) (by first | rfl | omega) (by omega) (by first | decide | assumption | omega) dX12_init_174 ?_
  refine V_dup dX12_init_175 rfl ?_
  refine V_bipush dX12_init_176 rfl ?_
  refine V_bipush dX12_init_178 rfl ?_
  refine V_iast (k := 27) kk106 (by decide) (by first | rfl | omega) (by omega) (by first | decide | assumption | omega) dX12_init_180 ?_
  refine V_dup dX12_init_181 rfl ?_
  refine V_bipush dX12_init_182 rfl ?_
  refine V_bipush dX12_init_184 rfl ?_
  refine V_iast (k := 28) kk106 (by decide) (by first | rfl | omega) (by omega) (by first | decide | assumption | omega) dX12_init_186 ?_
  refine V_dup dX12_init_187 rfl ?_
  refine V_bipush dX12_init_188 rfl ?_
  refine V_bipush dX12_init_190 rfl ?_
  refine V_iast (k := 29) kk106 (by decide) (by first | rfl | omega) (by omega) (by first | decide | assumption | omega) dX12_init_192 ?_
  refine V_dup dX12_init_193 rfl ?_
  refine V_bipush dX12_init_194 rfl ?_
  refine V_bipush dX12_init_196 rfl ?_
  refine V_iast (k := 30) kk106 (by decide) (by first | rfl | omega) (by omega) (by first | decide | assumption | omega) dX12_init_198 ?_
  refine V_dup dX12_init_199 rfl ?_
  refine V_bipush dX12_init_200 rfl ?_
  refine V_bipush dX12_init_202 rfl ?_
  refine V_iast (k := 31) kk106 (by decide) (by first | rfl | omega) (by omega) (by first | decide | assumption | omega) dX12_init_204 ?_
  refine V_dup dX12_init_205 rfl ?_
  refine V_bipush dX12_init_206 rfl ?_
  refine V_bipush dX12_init_208 rfl ?_
  refine V_iast (k := 32) kk106 (by decide) (by first | rfl | omega) (by omega) (by first | decide | assumption | omega) dX12_init_210 ?_
  refine V_dup dX12_init_211 rfl ?_
  refine V_bipush dX12_init_212 rfl ?_
  refine V_bipush dX12_init_214 rfl ?_
  refine V_iast (k := 33) kk106 (by decide) (by first | rfl | omega) (by omega) (by first | decide | assumption | omega) dX12_init_216 ?_
  refine V_dup dX12_init_217 rfl ?_
  refine V_bipush dX12_init_218 rfl ?_
  refine V_bipush dX12_init_220 rfl ?_
  refine V_iast (k := 34) kk106 (by decide) (by first | rfl | omega) (by omega) (by first | decide | assumption | omega) dX12_init_222 ?_
  refine V_dup dX12_init_223 rfl ?_
  refine V_bipush dX12_init_224 rfl ?_
  refine V_bipush dX12_init_226 rfl ?_
  refine V_iast (k := 35) kk106 (by decide) (by first | rfl | omega) (by omega) (by first | decide | assumption | omega) dX12_init_228 ?_
  refine V_dup dX12_init_229 rfl ?_
  refine V_bipush dX12_init_230 rfl ?_
  refine V_bipush dX12_init_232 rfl ?_
  refine V_iast (k := 36) kk106 (by decide) (by first | rfl | omega) (by omega) (by first | decide | assumption | omega) dX12_init_234 ?_
  refine V_dup dX12_init_235 rfl ?_
  refine V_bipush dX12_init_236 rfl ?_
  refine V_bipush dX12_init_238 rfl ?_
  refine V_iast (k := 37) kk106 (by decide) (by first | rfl | omega) (by omega) (by first | decide | assumption | omega) dX12_init_240 ?_
  refine V_dup dX12_init_241 rfl ?_
  refine V_bipush dX12_init_242 rfl ?_
  refine V_bipush dX12_init_244 rfl ?_
  refine V_iast (k := 38) kk106 (by decide) (by first | rfl | omega) (by omega) (by first | decide | assumption | omega) dX12_init_246 ?_
  refine V_dup dX12_init_247 rfl ?_
  refine V_bipush dX12_init_248 rfl ?_
  refine V_bipush dX12_init_250 rfl ?_
  refine V_iast (k := 39) kk106 (by decide) (by first | rfl | omega) (by omega) (by first | decide | assumption | omega) dX12_init_252 ?_
  refine V_dup dX12_init_253 rfl ?_
  refine V_bipush dX12_init_254 rfl ?_
  refine V_bipush dX12_init_256 rfl ?_
  refine V_iast (k := 40) kk106 (by decide) (by first | rfl | omega) (by omega) (by first | decide | assumption | omega) dX12_init_258 ?_
  refine V_dup dX12_init_259 rfl ?_
  refine V_bipush dX12_init_260 rfl ?_
  refine V_bipush dX12_init_262 rfl ?_
  refine V_iast (k := 41) kk106 (by decide) (by first | rfl | omega) (by omega) (by first | decide | assumption | omega) dX12_init_264 ?_
  refine V_dup dX12_init_265 rfl ?_
  refine V_bipush dX12_init_266 rfl ?_
  refine V_bipush dX12_init_268 rfl ?_
  refine V_iast (k := 42) kk106 (by decide) (by first | rfl | omega) (by omega) (by first | decide | assumption | omega) dX12_init_270 ?_
  refine V_dup dX12_init_271 rfl ?_
  refine V_bipush dX12_init_272 rfl ?_
  refine V_bipush dX12_init_274 rfl ?_
  refine V_iast (k := 43) kk106 (by decide) (by first | rfl | omega) (by omega) (by first | decide | assumption | omega) dX12_init_276 ?_
  refine V_dup dX12_init_277 rfl ?_
  refine V_bipush dX12_init_278 rfl ?_
  refine V_bipush dX12_init_280 rfl ?_
  refine V_iast (k := 44) kk106 (by decide) (by first | rfl | omega) (by omega) (by first | decide | assumption | omega) dX12_init_282 ?_
  refine V_dup dX12_init_283 rfl ?_
  refine V_bipush dX12_init_284 rfl ?_
  refine V_bipush dX12_init_286 rfl ?_
  refine V_iast (k := 45) kk106 (by decide) (by first | rfl | omega) (by omega) (by first | decide | assumption | omega) dX12_init_288 ?_
  refine V_dup dX12_init_289 rfl ?_
  refine V_bipush dX12_init_290 rfl ?_
  refine V_bipush dX12_init_292 rfl ?_
  refine V_iast (k := 46) kk106 (by decide) (by first | rfl | omega) (by omega) (by first | decide | assumption | omega) dX12_init_294 ?_
  refine V_dup dX12_init_295 rfl ?_
  refine V_bipush dX12_init_296 rfl ?_
  refine V_bipush dX12_init_298 rfl ?_
  refine V_iast (k := 47) kk106 (by decide) (by first | rfl | omega) (by omega) (by first | decide | assumption | omega) dX12_init_300 ?_
  refine V_dup dX12_init_301 rfl ?_
  refine V_bipush dX12_init_302 rfl ?_
  refine V_bipush dX12_init_304 rfl ?_
  refine V_iast (k := 48) kk106 (by decide) (by first | rfl | omega) (by omega) (by first | decide | assumption | omega) dX12_init_306 ?_
  refine V_dup dX12_init_307 rfl ?_
  refine V_bipush dX12_init_308 rfl ?_
  refine V_bipush dX12_init_310 rfl ?_
  refine V_iast (k := 49) kk106 (by decide) (by first | rfl | omega) (by omega) (by first | decide | assumption | omega) dX12_init_312 ?_
  refine V_dup dX12_init_313 rfl ?_
  refine V_bipush dX12_init_314 rfl ?_
  refine V_bipush dX12_init_316 rfl ?_
  refine V_iast (k := 50) kk106 (by decide) (by first | rfl | omega) (by omega) (by first | decide | assumption | omega) dX12_init_318 ?_
  refine V_dup dX12_init_319 rfl ?_
  refine V_bipush dX12_init_320 rfl ?_
  refine V_bipush dX12_init_322 rfl ?_
  refine V_iast (k := 51) kk106 (by decide) (by first | rfl | omega) (by omega) (by first | decide | assumption | omega) dX12_init_324 ?_
  refine V_dup dX12_init_325 rfl ?_
  refine V_bipush dX12_init_326 rfl ?_
  refine V_bipush dX12_init_328 rfl ?_
  refine V_iast (k := 52) kk106 (by decide) (by first | rfl | omega) (by omega) (by first | decide | assumption | omega) dX12_init_330 ?_
  refine V_dup dX12_init_331 rfl ?_
  refine V_bipush dX12_init_332 rfl ?_
  refine V_bipush dX12_init_334 rfl ?_
  refine V_iast (k := 53) kk106 (by decide) (by first | rfl | omega) (by omega) (by first | decide | assumption | omega) dX12_init_336 ?_
  refine V_dup dX12_init_337 rfl ?_
  refine V_bipush dX12_init_338 rfl ?_
  refine V_bipush dX12_init_340 rfl ?_
  refine V_iast (k := 54) kk106 (by decide) (by first | rfl | omega) (by omega) (by first | decide | assumption | omega) dX12_init_342 ?_
  refine V_dup dX12_init_343 rfl ?_
  refine V_bipush dX12_init_344 rfl ?_
  refine V_bipush dX12_init_346 rfl ?_
  refine V_iast (k := 55) kk106 (by decide) (by first | rfl | omega) (by omega) (by first | decide | assumption | omega) dX12_init_348 ?_
  refine V_dup dX12_init_349 rfl ?_
  refine V_bipush dX12_init_350 rfl ?_
  refine V_bipush dX12_init_352 rfl ?_
  refine V_iast (k := 56) kk106 (by decide) (by first | rfl | omega) (by omega) (by first | decide | assumption | omega) dX12_init_354 ?_
  refine V_dup dX12_init_355 rfl ?_
  refine V_bipush dX12_init_356 rfl ?_
  refine V_bipush dX12_init_358 rfl ?_
  refine V_iast (k := 57) kk106 (by decide) (by first | rfl | omega) (by omega) (by first | decide | assumption | omega) dX12_init_360 ?_
  refine V_dup dX12_init_361 rfl ?_
  refine V_bipush dX12_init_362 rfl ?_
  refine V_bipush dX12_init_364 rfl ?_
  refine V_iast (k := 58) kk106 (by decide) (by first | rfl | omega) (by omega) (by first | decide | assumption | omega) dX12_init_366 ?_
  refine V_dup dX12_init_367 rfl ?_
  refine V_bipush dX12_init_368 rfl ?_
  refine V_bipush dX12_init_370 rfl ?_
  refine V_iast (k := 59) kk106 (by decide) (by first | rfl | omega) (by omega) (by first | decide | assumption | omega) dX12_init_372 ?_
  refine V_dup dX12_init_373 rfl ?_
  refine V_bipush dX12_init_374 rfl ?_
  refine V_bipush dX12_init_376 rfl ?_
  refine V_iast (k := 60) kk106 (by decide) (by first | rfl | omega) (by omega) (by first | decide | assumption | omega) dX12_init_378 ?_
  refine V_dup dX12_init_379 rfl ?_
  refine V_bipush dX12_init_380 rfl ?_
  refine V_bipush dX12_init_382 rfl ?_
  refine V_iast (k := 61) kk106 (by decide) (by first | rfl | omega) (by omega) (by first | decide | assumption | omega) dX12_init_384 ?_
  refine V_dup dX12_init_385 rfl ?_
  refine V_bipush dX12_init_386 rfl ?_
  refine V_bipush dX12_init_388 rfl ?_
  refine V_iast (k := 62) kk106 (by decide) (by first | rfl | omega) (by omega) (by first | decide | assumption | omega) dX12_init_390 ?_
  refine V_dup dX12_init_391 rfl ?_
  refine V_bipush dX12_init_392 rfl ?_
  refine V_bipush dX12_init_394 rfl ?_
  refine V_iast (k := 63) kk106 (by decide) (by first | rfl | omega) (by omega) (by first | decide | assumption | omega) dX12_init_396 ?_
  refine V_dup dX12_init_397 rfl ?_
  refine V_bipush dX12_init_398 rfl ?_
  refine V_bipush dX12_init_400 rfl ?_
  refine V_iast (k := 64) kk106 (by decide) (by first | rfl | omega) (by omega) (by first | decide | assumption | omega) dX12_init_402 ?_
  refine V_dup dX12_init_403 rfl ?_
  refine V_bipush dX12_init_404 rfl ?_
  refine V_bipush dX12_init_406 rfl ?_
  refine V_iast (k := 65) kk106 (by decide) (by first | rfl | omega) (by omega) (by first | decide | assumption | omega) dX12_init_408 ?_
  refine V_dup dX12_init_409 rfl ?_
  refine V_bipush dX12_init_410 rfl ?_
  refine V_bipush dX12_init_412 rfl ?_
  refine V_iast (k := 66) kk106 (by decide) (by first | rfl | omega) (by omega) (by first | decide | assumption | omega) dX12_init_414 ?_
  refine V_dup dX12_init_415 rfl ?_
  refine V_bipush dX12_init_416 rfl ?_
  refine V_bipush dX12_init_418 rfl ?_
  refine V_iast (k := 67) kk106 (by decide) (by first | rfl | omega) (by omega) (by first | decide | assumption | omega) dX12_init_420 ?_
  refine V_dup dX12_init_421 rfl ?_
  refine V_bipush dX12_init_422 rfl ?_
  refine V_bipush dX12_init_424 rfl ?_
  refine V_iast (k := 68) kk106 (by decide) (by first | rfl | omega) (by omega) (by first | decide | assumption | omega) dX12_init_426 ?_
  refine V_dup dX12_init_427 rfl ?_
  refine V_bipush dX12_init_428 rfl ?_
  refine V_bipush dX12_init_430 rfl ?_
  refine V_iast (k := 69) kk106 (by decide) (by first | rfl | omega) (by omega) (by first | decide | assumption | omega) dX12_init_432 ?_
  refine V_dup dX12_init_433 rfl ?_
  refine V_bipush dX12_init_434 rfl ?_
  refine V_bipush dX12_init_436 rfl ?_
  refine V_iast (k := 70) kk106 (by decide) (by first | rfl | omega) (by omega) (by first | decide | assumption | omega) dX12_init_438 ?_
  refine V_dup dX12_init_439 rfl ?_
  refine V_bipush dX12_init_440 rfl ?_
  refine V_bipush dX12_init_442 rfl ?_
  refine V_iast (k := 71) kk106 (by decide) (by first | rfl | omega) (by omega) (by first | decide | assumption | omega) dX12_init_444 ?_
  refine V_dup dX12_init_445 rfl ?_
  refine V_bipush dX12_init_446 rfl ?_
  refine V_bipush dX12_init_448 rfl ?_
  refine V_iast (k := 72) kk106 (by decide) (by first | rfl | omega) (by omega) (by first | decide | assumption | omega) dX12_init_450 ?_
  refine V_dup dX12_init_451 rfl ?_
  refine V_bipush dX12_init_452 rfl ?_
  refine V_bipush dX12_init_454 rfl ?_
  refine V_iast (k := 73) kk106 (by decide) (by first | rfl | omega) (by omega) (by first | decide | assumption | omega) dX12_init_456 ?_
  refine V_dup dX12_init_457 rfl ?_
  refine V_bipush dX12_init_458 rfl ?_
  refine V_bipush dX12_init_460 rfl ?_
  refine V_iast (k := 74) kk106 (by decide) (by first | rfl | omega) (by omega) (by first | decide | assumption | omega) dX12_init_462 ?_
  refine V_dup dX12_init_463 rfl ?_
  refine V_bipush dX12_init_464 rfl ?_
  refine V_bipush dX12_init_466 rfl ?_
  refine V_iast (k := 75) kk106 (by decide) (by first | rfl | omega) (by omega) (by first | decide | assumption | omega) dX12_init_468 ?_
  refine V_dup dX12_init_469 rfl ?_
  refine V_bipush dX12_init_470 rfl ?_
  refine V_bipush dX12_init_472 rfl ?_
  refine V_iast (k := 76) kk106 (by decide) (by first | rfl | omega) (by omega) (by first | decide | assumption | omega) dX12_init_474 ?_
  refine V_dup dX12_init_475 rfl ?_
  refine V_bipush dX12_init_476 rfl ?_
  refine V_bipush dX12_init_478 rfl ?_
  refine V_iast (k := 77) kk106 (by decide) (by first | rfl | omega) (by omega) (by first | decide | assumption | omega) dX12_init_480 ?_
  refine V_dup dX12_init_481 rfl ?_
  refine V_bipush dX12_init_482 rfl ?_
  refine V_bipush dX12_init_484 rfl ?_
  refine V_iast (k := 78) kk106 (by decide) (by first | rfl | omega) (by omega) (by first | decide | assumption | omega) dX12_init_486 ?_
  refine V_dup dX12_init_487 rfl ?_
  refine V_bipush dX12_init_488 rfl ?_
  refine V_bipush dX12_init_490 rfl ?_
  refine V_iast (k := 79) kk106 (by decide) (by first | rfl | omega) (by omega) (by first | decide | assumption | omega) dX12_init_492 ?_
  refine V_dup dX12_init_493 rfl ?_
  refine V_bipush dX12_init_494 rfl ?_
  refine V_bipush dX12_init_496 rfl ?_
  refine V_iast (k := 80) kk106 (by decide) (by first | rfl | omega) (by omega) (by first | decide | assumption | omega) dX12_init_498 ?_
  refine V_dup dX12_init_499 rfl ?_
  refine V_bipush dX12_init_500 rfl ?_
  refine V_bipush dX12_init_502 rfl ?_
  refine V_iast (k := 81) kk106 (by decide) (by first | rfl | omega) (by omega) (by first | decide | assumption | omega) dX12_init_504 ?_
  refine V_dup dX12_init_505 rfl ?_
  refine V_bipush dX12_init_506 rfl ?_
  refine V_bipush dX12_init_508 rfl ?_
  refine V_iast (k := 82) kk106 (by decide) (by first | rfl | omega) (by omega) (by first | decide | assumption | omega) dX12_init_510 ?_
  refine V_dup dX12_init_511 rfl ?_
  refine V_bipush dX12_init_512 rfl ?_
  refine V_bipush dX12_init_514 rfl ?_
  refine V_iast (k := 83) kk106 (by decide) (by first | rfl | omega) (by omega) (by first | decide | assumption | omega) dX12_init_516 ?_
  refine V_dup dX12_init_517 rfl ?_
  refine V_bipush dX12_init_518 rfl ?_
  refine V_bipush dX12_init_520 rfl ?_
  refine V_iast (k := 84) kk106 (by decide) (by first | rfl | omega) (by omega) (by first | decide | assumption | omega) dX12_init_522 ?_
  refine V_dup dX12_init_523 rfl ?_
  refine V_bipush dX12_init_524 rfl ?_
  refine V_bipush dX12_init_526 rfl ?_
  refine V_iast (k := 85) kk106 (by decide) (by first | rfl | omega) (by omega) (by first | decide | assumption | omega) dX12_init_528 ?_
  refine V_dup dX12_init_529 rfl ?_
  refine V_bipush dX12_init_530 rfl ?_
  refine V_bipush dX12_init_532 rfl ?_
  refine V_iast (k := 86) kk106 (by decide) (by first | rfl | omega) (by omega) (by first | decide | assumption | omega) dX12_init_534 ?_
  refine V_dup dX12_init_535 rfl ?_
  refine V_bipush dX12_init_536 rfl ?_
  refine V_bipush dX12_init_538 rfl ?_
  refine V_iast (k := 87) kk106 (by decide) (by first | rfl | omega) (by omega) (by first | decide | assumption | omega) dX12_init_540 ?_
  refine V_dup dX12_init_541 rfl ?_
  refine V_bipush dX12_init_542 rfl ?_
  refine V_bipush dX12_init_544 rfl ?_
  refine V_iast (k := 88) kk106 (by decide) (by first | rfl | omega) (by omega) (by first | decide | assumption | omega) dX12_init_546 ?_
  refine V_dup dX12_init_547 rfl ?_
  refine V_bipush dX12_init_548 rfl ?_
  refine V_bipush dX12_init_550 rfl ?_
  refine V_iast (k := 89) kk106 (by decide) (by first | rfl | omega) (by omega) (by first | decide | assumption | omega) dX12_init_552 ?_
  refine V_dup dX12_init_553 rfl ?_
  refine V_bipush dX12_init_554 rfl ?_
  refine V_bipush dX12_init_556 rfl ?_
  refine V_iast (k := 90) kk106 (by decide) (by first | rfl | omega) (by omega) (by first | decide | assumption | omega) dX12_init_558 ?_
  refine V_dup dX12_init_559 rfl ?_
  refine V_bipush dX12_init_560 rfl ?_
  refine V_bipush dX12_init_562 rfl ?_
  refine V_iast (k := 91) kk106 (by decide) (by first | rfl | omega) (by omega) (by first | decide | assumption | omega) dX12_init_564 ?_
  refine V_dup dX12_init_565 rfl ?_
  refine V_bipush dX12_init_566 rfl ?_
  refine V_bipush dX12_init_568 rfl ?_
  refine V_iast (k := 92) kk106 (by decide) (by first | rfl | omega) (by omega) (by first | decide | assumption | omega) dX12_init_570 ?_
  refine V_dup dX12_init_571 rfl ?_
  refine V_bipush dX12_init_572 rfl ?_
  refine V_bipush dX12_init_574 rfl ?_
  refine V_iast (k := 93) kk106 (by decide) (by first | rfl | omega) (by omega) (by first | decide | assumption | omega) dX12_init_576 ?_
  refine V_dup dX12_init_577 rfl ?_
  refine V_bipush dX12_init_578 rfl ?_
  refine V_bipush dX12_init_580 rfl ?_
  refine V_iast (k := 94) kk106 (by decide) (by first | rfl | omega) (by omega) (by first | decide | assumption | omega) dX12_init_582 ?_
  refine V_dup dX12_init_583 rfl ?_
  refine V_bipush dX12_init_584 rfl ?_
  refine V_bipush dX12_init_586 rfl ?_
  refine V_iast (k := 95) kk106 (by decide) (by first | rfl | omega) (by omega) (by first | decide | assumption | omega) dX12_init_588 ?_
  refine V_dup dX12_init_589 rfl ?_
  refine V_bipush dX12_init_590 rfl ?_
  refine V_bipush dX12_init_592 rfl ?_
  refine V_iast (k := 96) kk106 (by decide) (by first | rfl | omega) (by omega) (by first | decide | assumption | omega) dX12_init_594 ?_
  refine V_dup dX12_init_595 rfl ?_
  refine V_bipush dX12_init_596 rfl ?_
  refine V_bipush dX12_init_598 rfl ?_
  refine V_iast (k := 97) kk106 (by decide) (by first | rfl | omega) (by omega) (by first | decide | assumption | omega) dX12_init_600 ?_
  refine V_dup dX12_init_601 rfl ?_
  refine V_bipush dX12_init_602 rfl ?_
  refine V_bipush dX12_init_604 rfl ?_
  refine V_iast (k := 98) kk106 (by decide) (by first | rfl | omega) (by omega) (by first | decide | assumption | omega) dX12_init_606 ?_
  refine V_dup dX12_init_607 rfl ?_
  refine V_bipush dX12_init_608 rfl ?_
  refine V_bipush dX12_init_610 rfl ?_
  refine V_iast (k := 99) kk106 (by decide) (by first | rfl | omega) (by omega) (by first | decide | assumption | omega) dX12_init_612 ?_
  refine V_dup dX12_init_613 rfl ?_
  refine V_bipush dX12_init_614 rfl ?_
  refine V_bipush dX12_init_616 rfl ?_
  refine V_iast (k := 100) kk106 (by decide) (by first | rfl | omega) (by omega) (by first | decide | assumption | omega) dX12_init_618 ?_
  refine V_dup dX12_init_619 rfl ?_
  refine V_bipush dX12_init_620 rfl ?_
  refine V_bipush dX12_init_622 rfl ?_
  refine V_iast (k := 101) kk106 (by decide) (by first | rfl | omega) (by omega) (by first | decide | assumption | omega) dX12_init_624 ?_
  refine V_dup dX12_init_625 rfl ?_
  refine V_bipush dX12_init_626 rfl ?_
  refine V_bipush dX12_init_628 rfl ?_
  refine V_iast (k := 102) kk106 (by decide) (by first | rfl | omega) (by omega) (by first | decide | assumption | omega) dX12_init_630 ?_
  refine V_dup dX12_init_631 rfl ?_
  refine V_bipush dX12_init_632 rfl ?_
  refine V_bipush dX12_init_634 rfl ?_
  refine V_iast (k := 103) kk106 (by decide) (by first | rfl | omega) (by omega) (by first | decide | assumption | omega) dX12_init_636 ?_
  refine V_dup dX12_init_637 rfl ?_
  refine V_bipush dX12_init_638 rfl ?_
  refine V_bipush dX12_init_640 rfl ?_
  refine V_iast (k := 104) kk106 (by decide) (by first | rfl | omega) (by omega) (by first | decide | assumption | omega) dX12_init_642 ?_
  refine V_dup dX12_init_643 rfl ?_
  refine V_bipush dX12_init_644 rfl ?_
  refine V_bipush dX12_init_646 rfl ?_
  refine V_iast (k := 105) kk106 (by decide) (by first | rfl | omega) (by omega) (by first | decide | assumption | omega) dX12_init_648 ?_
  refine V_dup dX12_init_649 rfl ?_
  refine V_bipush dX12_init_650 rfl ?_
  refine V_bipush dX12_init_652 rfl ?_
  refine V_iast (k := 106) kk106 (by decide) (by first | rfl | omega) (by omega) (by first | decide | assumption | omega) dX12_init_654 ?_
  refine V_dup dX12_init_655 rfl ?_
  refine V_bipush dX12_init_656 rfl ?_
  refine V_bipush dX12_init_658 rfl ?_
  refine V_iast (k := 107) kk106 (by decide) (by first | rfl | omega) (by omega) (by first | decide | assumption | omega) dX12_init_660 ?_
  refine V_dup dX12_init_661 rfl ?_
  refine V_bipush dX12_init_662 rfl ?_
  refine V_bipush dX12_init_664 rfl ?_
  refine V_iast (k := 108) kk106 (by decide) (by first | rfl | omega) (by omega) (by first | decide | assumption | omega) dX12_init_666 ?_
  refine V_dup dX12_init_667 rfl ?_
  refine V_bipush dX12_init_668 rfl ?_
  refine V_bipush dX12_init_670 rfl ?_
  refine V_iast (k := 109) kk106 (by decide) (by first | rfl | omega) (by omega) (by first | decide | assumption | omega) dX12_init_672 ?_
  refine V_dup dX12_init_673 rfl ?_
  refine V_bipush dX12_init_674 rfl ?_
  refine V_bipush dX12_init_676 rfl ?_
  refine V_iast (k := 110) kk106 (by decide) (by first | rfl | omega) (by omega) (by first | decide | assumption | omega) dX12_init_678 ?_
  refine V_dup dX12_init_679 rfl ?_
  refine V_bipush dX12_init_680 rfl ?_
  refine V_bipush dX12_init_682 rfl ?_
  refine V_iast (k := 111) kk106 (by decide) (by first | rfl | omega) (by omega) (by first | decide | assumption | omega) dX12_init_684 ?_
  refine V_dup dX12_init_685 rfl ?_
  refine V_bipush dX12_init_686 rfl ?_
  refine V_bipush dX12_init_688 rfl ?_
  refine V_iast (k := 112) kk106 (by decide) (by first | rfl | omega) (by omega) (by first | decide | assumption | omega) dX12_init_690 ?_
  refine V_dup dX12_init_691 rfl ?_
  refine V_bipush dX12_init_692 rfl ?_
  refine V_bipush dX12_init_694 rfl ?_
  refine V_iast (k := 113) kk106 (by decide) (by first | rfl | omega) (by omega) (by first | decide | assumption | omega) dX12_init_696 ?_
  refine V_dup dX12_init_697 rfl ?_
  refine V_bipush dX12_init_698 rfl ?_
  refine V_bipush dX12_init_700 rfl ?_
  refine V_iast (k := 114) kk106 (by decide) (by first | rfl | omega) (by omega) (by first | decide | assumption | omega) dX12_init_702 ?_
  refine V_dup dX12_init_703 rfl ?_
  refine V_bipush dX12_init_704 rfl ?_
  refine V_bipush dX12_init_706 rfl ?_
  refine V_iast (k := 115) kk106 (by decide) (by first | rfl | omega) (by omega) (by first | decide | assumption | omega) dX12_init_708 ?_
  refine V_dup dX12_init_709 rfl ?_
  refine V_bipush dX12_init_710 rfl ?_
  refine V_bipush dX12_init_712 rfl ?_
  refine V_iast (k := 116) kk106 (by decide) (by first | rfl | omega) (by omega) (by first | decide | assumption | omega) dX12_init_714 ?_
  refine V_dup dX12_init_715 rfl ?_
  refine V_bipush dX12_init_716 rfl ?_
  refine V_bipush dX12_init_718 rfl ?_
  refine V_iast (k := 117) kk106 (by decide) (by first | rfl | omega) (by omega) (by first | decide | assumption | omega) dX12_init_720 ?_
  refine V_dup dX12_init_721 rfl ?_
  refine V_bipush dX12_init_722 rfl ?_
  refine V_bipush dX12_init_724 rfl ?_
  refine V_iast (k := 118) kk106 (by decide) (by first | rfl | omega) (by omega) (by first | decide | assumption | omega) dX12_init_726 ?_
  refine V_dup dX12_init_727 rfl ?_
  refine V_bipush dX12_init_728 rfl ?_
  refine V_bipush dX12_init_730 rfl ?_
  refine V_iast (k := 119) kk106 (by decide) (by first | rfl | omega) (by omega) (by first | decide | assumption | omega) dX12_init_732 ?_
  refine V_dup dX12_init_733 rfl ?_
  refine V_bipush dX12_init_734 rfl ?_
  refine V_bipush dX12_init_736 rfl ?_
  refine V_iast (k := 120) kk106 (by decide) (by first | rfl | omega) (by omega) (by first | decide | assumption | omega) dX12_init_738 ?_
  refine V_dup dX12_init_739 rfl ?_
  refine V_bipush dX12_init_740 rfl ?_
  refine V_bipush dX12_init_742 rfl ?_
  refine V_iast (k := 121) kk106 (by decide) (by first | rfl | omega) (by omega) (by first | decide | assumption | omega) dX12_init_744 ?_
  refine V_dup dX12_init_745 rfl ?_
  refine V_bipush dX12_init_746 rfl ?_
  refine V_bipush dX12_init_748 rfl ?_
  refine V_iast (k := 122) kk106 (by decide) (by first | rfl | omega) (by omega) (by first | decide | assumption | omega) dX12_init_750 ?_
  refine V_dup dX12_init_751 rfl ?_
  refine V_bipush dX12_init_752 rfl ?_
  refine V_bipush dX12_init_754 rfl ?_
  refine V_iast (k := 123) kk106 (by decide) (by first | rfl | omega) (by omega) (by first | decide | assumption | omega) dX12_init_756 ?_
  refine V_dup dX12_init_757 rfl ?_
  refine V_bipush dX12_init_758 rfl ?_
  refine V_bipush dX12_init_760 rfl ?_
  refine V_iast (k := 124) kk106 (by decide) (by first | rfl | omega) (by omega) (by first | decide | assumption | omega) dX12_init_762 ?_
  refine V_dup dX12_init_763 rfl ?_
  refine V_bipush dX12_init_764 rfl ?_
  refine V_bipush dX12_init_766 rfl ?_
  refine V_iast (k := 125) kk106 (by decide) (by first | rfl | omega) (by omega) (by first | decide | assumption | omega) dX12_init_768 ?_
  refine V_dup dX12_init_769 rfl ?_
  refine V_bipush dX12_init_770 rfl ?_
  refine V_bipush dX12_init_772 rfl ?_
  refine V_iast (k := 126) kk106 (by decide) (by first | rfl | omega) (by omega) (by first | decide | assumption | omega) dX12_init_774 ?_
  refine V_dup dX12_init_775 rfl ?_
  refine V_bipush dX12_init_776 rfl ?_
  refine V_bipush dX12_init_778 rfl ?_
  refine V_iast (k := 127) kk106 (by decide) (by first | rfl | omega) (by omega) (by first | decide | assumption | omega) dX12_init_780 ?_
  refine V_dup dX12_init_781 rfl ?_
  refine V_sipush dX12_init_782 rfl ?_
  refine V_bipush dX12_init_785 rfl ?_
  refine V_iast (k := 128) kk106 (by decide) (by first | rfl | omega) (by omega) (by first | decide | assumption | omega) dX12_init_787 ?_
  refine V_dup dX12_init_788 rfl ?_
  refine V_sipush dX12_init_789 rfl ?_
  refine V_bipush dX12_init_792 rfl ?_
  refine V_iast (k := 129) kk106 (by decide) (by first | rfl | omega) (by omega) (by first | decide | assumption | omega) dX12_init_794 ?_
  refine V_dup dX12_init_795 rfl ?_
  refine V_sipush dX12_init_796 rfl ?_
  refine V_bipush dX12_init_799 rfl ?_
  refine V_iast (k := 130) kk106 (by decide) (by first | rfl | omega) (by omega) (by first | decide | assumption | omega) dX12_init_801 ?_
  refine V_dup dX12_init_802 rfl ?_
  refine V_sipush dX12_init_803 rfl ?_
  refine V_bipush dX12_init_806 rfl ?_
  refine V_iast (k := 131) kk106 (by decide) (by first | rfl | omega) (by omega) (by first | decide | assumption | omega) dX12_init_808 ?_
  refine V_dup dX12_init_809 rfl ?_
  refine V_sipush dX12_init_810 rfl ?_
  refine V_bipush dX12_init_813 rfl ?_
  refine V_iast (k := 132) kk106 (by decide) (by first | rfl | omega) (by omega) (by first | decide | assumption | omega) dX12_init_815 ?_
  refine V_dup dX12_init_816 rfl ?_
  refine V_sipush dX12_init_817 rfl ?_
  refine V_bipush dX12_init_820 rfl ?_
  refine V_iast (k := 133) kk106 (by decide) (by first | rfl | omega) (by omega) (by first | decide | assumption | omega) dX12_init_822 ?_
  refine V_dup dX12_init_823 rfl ?_
  refine V_sipush dX12_init_824 rfl ?_
  refine V_bipush dX12_init_827 rfl ?_
  refine V_iast (k := 134) kk106 (by decide) (by first | rfl | omega) (by omega) (by first | decide | assumption | omega) dX12_init_829 ?_
  refine V_dup dX12_init_830 rfl ?_
  refine V_sipush dX12_init_831 rfl ?_
  refine V_bipush dX12_init_834 rfl ?_
  refine V_iast (k := 135) kk106 (by decide) (by first | rfl | omega) (by omega) (by first | decide | assumption | omega) dX12_init_836 ?_
  refine V_dup dX12_init_837 rfl ?_
  refine V_sipush dX12_init_838 rfl ?_
  refine V_bipush dX12_init_841 rfl ?_
  refine V_iast (k := 136) kk106 (by decide) (by first | rfl | omega) (by omega) (by first | decide | assumption | omega) dX12_init_843 ?_
  refine V_dup dX12_init_844 rfl ?_
  refine V_sipush dX12_init_845 rfl ?_
  refine V_bipush dX12_init_848 rfl ?_
  refine V_iast (k := 137) kk106 (by decide) (by first | rfl | omega) (by omega) (by first | decide | assumption | omega) dX12_init_850 ?_
  refine V_dup dX12_init_851 rfl ?_
  refine V_sipush dX12_init_852 rfl ?_
  refine V_bipush dX12_init_855 rfl ?_
  refine V_iast (k := 138) kk106 (by decide) (by first | rfl | omega) (by omega) (by first | decide | assumption | omega) dX12_init_857 ?_
  refine V_dup dX12_init_858 rfl ?_
  refine V_sipush dX12_init_859 rfl ?_
  refine V_bipush dX12_init_862 rfl ?_
  refine V_iast (k := 139) kk106 (by decide) (by first | rfl | omega) (by omega) (by first | decide | assumption | omega) dX12_init_864 ?_
  refine V_dup dX12_init_865 rfl ?_
  refine V_sipush dX12_init_866 rfl ?_
  refine V_bipush dX12_init_869 rfl ?_
  refine V_iast (k := 140) kk106 (by decide) (by first | rfl | omega) (by omega) (by first | decide | assumption | omega) dX12_init_871 ?_
  refine V_dup dX12_init_872 rfl ?_
  refine V_sipush dX12_init_873 rfl ?_
  refine V_bipush dX12_init_876 rfl ?_
  refine V_iast (k := 141) kk106 (by decide) (by first | rfl | omega) (by omega) (by first | decide | assumption | omega) dX12_init_878 ?_
  refine V_dup dX12_init_879 rfl ?_
  refine V_sipush dX12_init_880 rfl ?_
  refine V_bipush dX12_init_883 rfl ?_
  refine V_iast (k := 142) kk106 (by decide) (by first | rfl | omega) (by omega) (by first | decide | assumption | omega) dX12_init_885 ?_
  refine V_putFR kk104 (by decide) fl_X12_13 rfl (by decide) dX12_init_886 ?_
  refine V_al0n dX12_init_889 ?_
  refine V_iconst dX12_init_890 ?_
  refine V_putI kk104 (by decide) fl_X12_16 rfl dX12_init_891 ?_
  exact w_m894 (ρ := mR1 ρ) (f := mI1 f) hF (by unfold mR1 mI1; exact (Zr.ui (by first | decide | omega) (Zr.ui (by first | decide | omega) (Zr.ui (by first | decide | omega) (Zr.ui (by first | decide | omega) (Zr.ui (by first | decide | omega) (Zr.ui (by first | decide | omega) (Zr.ui (by first | decide | omega) (Zr.ui (by first | decide | omega) (Zr.ui (by first | decide | omega) (Zr.ui (by first | decide | omega) (Zr.ui (by first | decide | omega) (Zr.ui (by first | decide | omega) (Zr.ui (by first | decide | omega) (Zr.ui (by first | decide | omega) (Zr.ui (by first | decide | omega) (Zr.ui (by first | decide | omega) (Zr.ui (by first | decide | omega) (Zr.ui (by first | decide | omega) (Zr.ui (by first | decide | omega) (Zr.ui (by first | decide | omega) (Zr.ui (by first | decide | omega) (Zr.ui (by first | decide | omega) (Zr.ui (by first | decide | omega) (Zr.ui (by first | decide | omega) (Zr.ui (by first | decide | omega) (Zr.ui (by first | decide | omega) (Zr.ui (by first | decide | omega) (Zr.ui (by first | decide | omega) (Zr.ui (by first | decide | omega) (Zr.ui (by first | decide | omega) (Zr.ui (by first | decide | omega) (Zr.ui (by first | decide | omega) (Zr.ui (by first | decide | omega) (Zr.ui (by first | decide | omega) (Zr.ui (by first | decide | omega) (Zr.ui (by first | decide | omega) (Zr.ui (by first | decide | omega) (Zr.ui (by first | decide | omega) (Zr.ui (by first | decide | omega) (Zr.ui (by first | decide | omega) (Zr.ui (by first | decide | omega) (Zr.ui (by first | decide | omega) (Zr.ui (by first | decide | omega) (Zr.ui (by first | decide | omega) (Zr.ui (by first | decide | omega) (Zr.ui (by first | decide | omega) (Zr.ui (by first | decide | omega) (Zr.ui (by first | decide | omega) (Zr.ui (by first | decide | omega) (Zr.ui (by first | decide | omega) (Zr.ui (by first | decide | omega) (Zr.ui (by first | decide | omega) (Zr.ui (by first | decide | omega) (Zr.ui (by first | decide | omega) (Zr.ui (by first | decide | omega) (Zr.ui (by first | decide | omega) (Zr.ui (by first | decide | omega) (Zr.ui (by first | decide | omega) (Zr.ui (by first | decide | omega) (Zr.ui (by first | decide | omega) (Zr.ui (by first | decide | omega) (Zr.ui (by first | decide | omega) (Zr.ui (by first | decide | omega) (Zr.ui (by first | decide | omega) (Zr.ui (by first | decide | omega) (Zr.ui (by first | decide | omega) (Zr.ui (by first | decide | omega) (Zr.ui (by first | decide | omega) (Zr.ui (by first | decide | omega) (Zr.ui (by first | decide | omega) (Zr.ui (by first | decide | omega) (Zr.ui (by first | decide | omega) (Zr.ui (by first | decide | omega) (Zr.ui (by first | decide | omega) (Zr.ui (by first | decide | omega) (Zr.ui (by first | decide | omega) (Zr.ui (by first | decide | omega) (Zr.ui (by first | decide | omega) (Zr.ui (by first | decide | omega) (Zr.ui (by first | decide | omega) (Zr.ui (by first | decide | omega) (Zr.ui (by first | decide | omega) (Zr.ui (by first | decide | omega) (Zr.ui (by first | decide | omega) (Zr.ui (by first | decide | omega) (Zr.ui (by first | decide | omega) (Zr.ui (by first | decide | omega) (Zr.ui (by first | decide | omega) (Zr.ui (by first | decide | omega) (Zr.ui (by first | decide | omega) (Zr.ui (by first | decide | omega) (Zr.ui (by first | decide | omega) (Zr.ui (by first | decide | omega) (Zr.ui (by first | decide | omega) (Zr.ui (by first | decide | omega) (Zr.ui (by first | decide | omega) (Zr.ui (by first | decide | omega) (Zr.ui (by first | decide | omega) (Zr.ui (by first | decide | omega) (Zr.ui (by first | decide | omega) (Zr.ui (by first | decide | omega) (Zr.ui (by first | decide | omega) (Zr.ui (by first | decide | omega) (Zr.ui (by first | decide | omega) (Zr.ui (by first | decide | omega) (Zr.ui (by first | decide | omega) (Zr.ui (by first | decide | omega) (Zr.ui (by first | decide | omega) (Zr.ui (by first | decide | omega) (Zr.ui (by first | decide | omega) (Zr.ui (by first | decide | omega) (Zr.ui (by first | decide | omega) (Zr.ui (by first | decide | omega) (Zr.ui (by first | decide | omega) (Zr.ui (by first | decide | omega) (Zr.ui (by first | decide | omega) (Zr.ui (by first | decide | omega) (Zr.ui (by first | decide | omega) (Zr.ui (by first | decide | omega) (Zr.ui (by first | decide | omega) (Zr.ui (by first | decide | omega) (Zr.ui (by first | decide | omega) (Zr.ui (by first | decide | omega) (Zr.ui (by first | decide | omega) (Zr.ui (by first | decide | omega) (Zr.ui (by first | decide | omega) (Zr.ui (by first | decide | omega) (Zr.ui (by first | decide | omega) (Zr.ui (by first | decide | omega) (Zr.ui (by first | decide | omega) (Zr.ui (by first | decide | omega) (Zr.ui (by first | decide | omega) (Zr.ui (by first | decide | omega) (Zr.ui (by first | decide | omega) (Zr.ui (by first | decide | omega) (Zr.ui (by first | decide | omega) (Zr.ui (by first | decide | omega) (Zr.ui (by first | decide | omega) (Zr.ui (by first | decide | omega) (Zr.ui (by first | decide | omega) (Zr.ui (by first | decide | omega) (Zr.ui (by first | decide | omega) (Zr.ui (by first | decide | omega) (Zr.ui (by first | decide | omega) (Zr.ur (by first | decide | omega) (Zr.ur (by first | decide | omega) (Zr.mono hZ (by first | decide | omega))))))))))))))))))))))))))))))))))))))))))))))))))))))))))))))))))))))))))))))))))))))))))))))))))))))))))))))))))))))))))))))))))))))))))))))))))))) (fun hz => ⟨rfl, rfl, rfl, rfl, hz⟩)
end OPEN4

