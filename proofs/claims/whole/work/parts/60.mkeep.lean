/-! plain, the copies, the text kept, feed -/
def clL (f : IT) (i : Nat) : IT := fun a k => if a = 127 ∧ 8 ≤ k ∧ k < i then 0 else f a k
def plnF (f : IT) : IT := clL (u2 (u2 (u2 (u2 (u2 (u2 (u2 (u2 (u2 (u2 (u2 f 104 20 0) 104 21 0) 104 22 0) 104 23 0) 104 24 0) 104 25 0) 104 61 0) 104 26 8) 104 27 0) 104 28 0) 104 29 0) 16
theorem w_plain {Q : QT} {ρ : RT} {f : IT} {g : JT} (hρ : Fx ρ) (hQ : Q none ρ (clL f 16) g) (i : Nat) (hi : 8 ≤ i ∧ i ≤ 16) : V_X12_plain Q 59 [.ref 104, .int (iz (i : Int))] [] ρ (clL f i) g := by
  refine V_il1n dX12_plain_59 ?_
  refine V_bipush dX12_plain_60 rfl ?_
  refine V_icmp_ge (tgt := 78) dX12_plain_62 rfl (by first | assumption | (unfold ri at *; omega)) (by first | assumption | (unfold ri at *; omega)) (fun b62 => ?_) (fun b62 => ?_)
  · exact V_return rfl (by rw [show i = 16 by omega]; exact hQ) dX12_plain_78
  · refine V_al0n dX12_plain_65 ?_
    refine V_getR kk104 (by decide) fl_X12_81 (fx_104_50 hρ) dX12_plain_66 ?_
    refine V_il1n dX12_plain_69 ?_
    refine V_iconst dX12_plain_70 ?_
    refine V_zast (k := i) kk127 (by decide) (by first | rfl | omega) (by omega) (by first | decide | assumption | omega) (by first | exact Or.inl rfl | exact Or.inr rfl | (unfold bz; split <;> simp)) dX12_plain_71 ?_
    refine V_inc1 dX12_plain_72 (by decide) rfl ?_
    refine V_goto (tgt := 59) dX12_plain_75 rfl ?_
    have e : u2 (clL f i) 127 i 0 = clL f (i + 1) := by
      funext a k
      unfold u2 clL
      by_cases c : a = 127 ∧ k = i
      · rw [if_pos c, if_pos (by omega)]
      · rw [if_neg c]
        by_cases c2 : a = 127 ∧ 8 ≤ k ∧ k < i
        · rw [if_pos c2, if_pos (by omega)]
        · rw [if_neg c2, if_neg (by omega)]
    rw [e]
    exact w_plain hρ hQ (i + 1) (by omega)
termination_by 16 - i
theorem clL_8 {f : IT} : clL f 8 = f := by funext a k; unfold clL; rw [if_neg (by omega)]
theorem c_plain {ρ : RT} {f : IT} {g : JT} (hρ : Fx ρ) : C_X12_plain [.ref 104] ρ f g (fun r ρ' f' g' => r = none ∧ ρ' = ρ ∧ f' = plnF f ∧ g' = g) := by
  refine Ct.ofV (by decide) rfl (Nat.le_of_ble_eq_true rfl) ?_
  refine V_al0n dX12_plain_0 ?_
  refine V_iconst dX12_plain_1 ?_
  refine V_putI kk104 (by decide) fl_X12_216 rfl dX12_plain_2 ?_
  refine V_al0n dX12_plain_5 ?_
  refine V_iconst dX12_plain_6 ?_
  refine V_putI kk104 (by decide) fl_X12_219 rfl dX12_plain_7 ?_
  refine V_al0n dX12_plain_10 ?_
  refine V_iconst dX12_plain_11 ?_
  refine V_putI kk104 (by decide) fl_X12_222 rfl dX12_plain_12 ?_
  refine V_al0n dX12_plain_15 ?_
  refine V_iconst dX12_plain_16 ?_
  refine V_putI kk104 (by decide) fl_X12_225 rfl dX12_plain_17 ?_
  refine V_al0n dX12_plain_20 ?_
  refine V_iconst dX12_plain_21 ?_
  refine V_putI kk104 (by decide) fl_X12_228 rfl dX12_plain_22 ?_
  refine V_al0n dX12_plain_25 ?_
  refine V_iconst dX12_plain_26 ?_
  refine V_putI kk104 (by decide) fl_X12_231 rfl dX12_plain_27 ?_
  refine V_al0n dX12_plain_30 ?_
  refine V_iconst dX12_plain_31 ?_
  refine V_putI kk104 (by decide) fl_X12_234 rfl dX12_plain_32 ?_
  refine V_al0n dX12_plain_35 ?_
  refine V_bipush dX12_plain_36 rfl ?_
  refine V_putI kk104 (by decide) fl_X12_237 rfl dX12_plain_38 ?_
  refine V_al0n dX12_plain_41 ?_
  refine V_iconst dX12_plain_42 ?_
  refine V_putI kk104 (by decide) fl_X12_240 rfl dX12_plain_43 ?_
  refine V_al0n dX12_plain_46 ?_
  refine V_iconst dX12_plain_47 ?_
  refine V_putZ kk104 (by decide) fl_X12_243 rfl (by first | exact Or.inl rfl | exact Or.inr rfl | (unfold bz; split <;> simp)) dX12_plain_48 ?_
  refine V_al0n dX12_plain_51 ?_
  refine V_iconst dX12_plain_52 ?_
  refine V_putZ kk104 (by decide) fl_X12_247 rfl (by first | exact Or.inl rfl | exact Or.inr rfl | (unfold bz; split <;> simp)) dX12_plain_53 ?_
  refine V_bipush dX12_plain_56 rfl ?_
  refine V_is1n dX12_plain_58 (by decide) rfl ?_
  have := w_plain (Q := fun r ρ' f' g' => r = none ∧ ρ' = ρ ∧ f' = plnF f ∧ g' = g) (f := u2 (u2 (u2 (u2 (u2 (u2 (u2 (u2 (u2 (u2 (u2 f 104 20 0) 104 21 0) 104 22 0) 104 23 0) 104 24 0) 104 25 0) 104 61 0) 104 26 8) 104 27 0) 104 28 0) 104 29 0) (g := g) hρ ⟨rfl, rfl, rfl, rfl⟩ 8 (by omega)
  rw [clL_8] at this
  exact this
def cpH (f : IT) (a n i : Nat) : IT := fun c k => if c = a ∧ k < i then f a (n + k) else f c k
theorem cpH_0 {f : IT} {a n : Nat} : cpH f a n 0 = f := by funext c k; unfold cpH; rw [if_neg (by omega)]
theorem cpH_s {f : IT} {a n i : Nat} : u2 (cpH f a n i) a i (f a (n + i)) = cpH f a n (i + 1) := by
  funext c k
  unfold u2 cpH
  by_cases h : c = a ∧ k = i
  · rw [if_pos h, if_pos (by omega), h.2]
  · rw [if_neg h]
    by_cases h2 : c = a ∧ k < i
    · rw [if_pos h2, if_pos (by omega)]
    · rw [if_neg h2, if_neg (by omega)]
theorem cpH_b {f : IT} {a n i k : Nat} (h : i ≤ n) : cpH f a n i a (n + k) = f a (n + k) := by unfold cpH; rw [if_neg (by omega)]
theorem w_copies {Q : QT} {ρ : RT} {f : IT} {g : JT} {a n : Nat} (ha : kd a = (13, 2 * n)) (hn : n ≤ 1000) (hQ : Q none ρ (cpH f a n n) g) (i : Nat) (hi : i ≤ n) : V_X12_copies Q 2 [.ref a, .int (iz (n : Int)), .int (iz (i : Int))] [] ρ (cpH f a n i) g := by
  by_cases e : i = n
  · subst e
    refine V_il2n dX12_copies_2 ?_
    refine V_il1n dX12_copies_3 ?_
    refine V_icmp_ge (tgt := 21) dX12_copies_4 rfl (by first | assumption | (unfold ri at *; omega)) (by first | assumption | (unfold ri at *; omega)) (fun b4 => ?_) (fun b4 => ?_)
    · exact V_return rfl hQ dX12_copies_21
    · exfalso; omega
  · refine V_il2n dX12_copies_2 ?_
    refine V_il1n dX12_copies_3 ?_
    refine V_icmp_ge (tgt := 21) dX12_copies_4 rfl (by first | assumption | (unfold ri at *; omega)) (by first | assumption | (unfold ri at *; omega)) (fun b4 => ?_) (fun b4 => ?_)
    · exfalso; omega
    · refine V_al0n dX12_copies_7 ?_
      refine V_il2n dX12_copies_8 ?_
      refine V_al0n dX12_copies_9 ?_
      refine V_il1n dX12_copies_10 ?_
      refine V_il2n dX12_copies_11 ?_
      refine V_iadd dX12_copies_12 ?_
      refine V_iald (k := (n + i)) ha (kdlt ha (by decide)) (by first | rfl | omega) (by omega) (by first | decide | assumption | omega) (cpH_b (by omega)) dX12_copies_13 ?_
      refine V_iast (k := i) ha (kdlt ha (by decide)) (by first | rfl | omega) (by omega) (by first | decide | assumption | omega) dX12_copies_14 ?_
      refine V_inc2 dX12_copies_15 (by decide) rfl ?_
      refine V_goto (tgt := 2) dX12_copies_18 rfl ?_
      rw [cpH_s]
      exact w_copies ha hn hQ (i + 1) (by omega)
termination_by n - i
theorem c_copies {ρ : RT} {f : IT} {g : JT} {a n : Nat} (ha : kd a = (13, 2 * n)) (hn : n ≤ 1000) : C_X12_copies [.ref a, .int (iz (n : Int))] ρ f g (fun r ρ' f' g' => r = none ∧ ρ' = ρ ∧ f' = cpH f a n n ∧ g' = g) := by
  refine Ct.ofV (by decide) rfl (Nat.le_of_ble_eq_true rfl) ?_
  refine V_iconst dX12_copies_0 ?_
  refine V_is2n dX12_copies_1 (by decide) rfl ?_
  have := w_copies (Q := fun r ρ' f' g' => r = none ∧ ρ' = ρ ∧ f' = cpH f a n n ∧ g' = g) (ρ := ρ) (f := f) (g := g) ha hn ⟨rfl, rfl, rfl, rfl⟩ 0 (by omega)
  rw [cpH_0] at this
  exact this
theorem w_copiesOf {Q : QT} {ρ : RT} {f : IT} {g : JT} {a n : Nat} (ha : kd a = (15, 2 * n)) (hn : n ≤ 1000) (hb : ∀ k, f a k = 0 ∨ f a k = 1) (hQ : Q none ρ (cpH f a n n) g) (i : Nat) (hi : i ≤ n) : V_X12_copiesOf Q 2 [.ref a, .int (iz (n : Int)), .int (iz (i : Int))] [] ρ (cpH f a n i) g := by
  by_cases e : i = n
  · subst e
    refine V_il2n dX12_copiesOf_2 ?_
    refine V_il1n dX12_copiesOf_3 ?_
    refine V_icmp_ge (tgt := 21) dX12_copiesOf_4 rfl (by first | assumption | (unfold ri at *; omega)) (by first | assumption | (unfold ri at *; omega)) (fun b4 => ?_) (fun b4 => ?_)
    · exact V_return rfl hQ dX12_copiesOf_21
    · exfalso; omega
  · refine V_il2n dX12_copiesOf_2 ?_
    refine V_il1n dX12_copiesOf_3 ?_
    refine V_icmp_ge (tgt := 21) dX12_copiesOf_4 rfl (by first | assumption | (unfold ri at *; omega)) (by first | assumption | (unfold ri at *; omega)) (fun b4 => ?_) (fun b4 => ?_)
    · exfalso; omega
    · refine V_al0n dX12_copiesOf_7 ?_
      refine V_il2n dX12_copiesOf_8 ?_
      refine V_al0n dX12_copiesOf_9 ?_
      refine V_il1n dX12_copiesOf_10 ?_
      refine V_il2n dX12_copiesOf_11 ?_
      refine V_iadd dX12_copiesOf_12 ?_
      refine V_zald (k := (n + i)) ha (kdlt ha (by decide)) (by first | rfl | omega) (by omega) (by first | decide | assumption | omega) (cpH_b (by omega)) dX12_copiesOf_13 ?_
      refine V_zast (k := i) ha (kdlt ha (by decide)) (by first | rfl | omega) (by omega) (by first | decide | assumption | omega) (hb _) dX12_copiesOf_14 ?_
      refine V_inc2 dX12_copiesOf_15 (by decide) rfl ?_
      refine V_goto (tgt := 2) dX12_copiesOf_18 rfl ?_
      rw [cpH_s]
      exact w_copiesOf ha hn hb hQ (i + 1) (by omega)
termination_by n - i
theorem c_copiesOf {ρ : RT} {f : IT} {g : JT} {a n : Nat} (ha : kd a = (15, 2 * n)) (hn : n ≤ 1000) (hb : ∀ k, f a k = 0 ∨ f a k = 1) : C_X12_copiesOf [.ref a, .int (iz (n : Int))] ρ f g (fun r ρ' f' g' => r = none ∧ ρ' = ρ ∧ f' = cpH f a n n ∧ g' = g) := by
  refine Ct.ofV (by decide) rfl (Nat.le_of_ble_eq_true rfl) ?_
  refine V_iconst dX12_copiesOf_0 ?_
  refine V_is2n dX12_copiesOf_1 (by decide) rfl ?_
  have := w_copiesOf (Q := fun r ρ' f' g' => r = none ∧ ρ' = ρ ∧ f' = cpH f a n n ∧ g' = g) (ρ := ρ) (f := f) (g := g) ha hn hb ⟨rfl, rfl, rfl, rfl⟩ 0 (by omega)
  rw [cpH_0] at this
  exact this
/-- the first rows kept -/
def kpN (f : IT) (j : Nat) : IT := fun a k => if 107 ≤ a ∧ a < 107 + j ∧ k < half a then f a (half a + k) else f a k
theorem kpN_0 {f : IT} : kpN f 0 = f := by funext a k; unfold kpN; rw [if_neg (by omega)]
theorem kpN_s {f : IT} {j n : Nat} (hn : half (107 + j) = n) : cpH (kpN f j) (107 + j) n n = kpN f (j + 1) := by
  subst hn
  funext a k
  unfold cpH kpN
  by_cases h : a = 107 + j ∧ k < half (107 + j)
  · obtain ⟨rfl, hk⟩ := h
    rw [if_pos ⟨rfl, hk⟩, if_neg (by omega), if_pos ⟨by omega, by omega, hk⟩]
  · rw [if_neg h]
    by_cases h2 : 107 ≤ a ∧ a < 107 + j ∧ k < half a
    · rw [if_pos h2, if_pos (by omega)]
    · rw [if_neg h2, if_neg (fun q => ?_)]
      by_cases e : a = 107 + j
      · subst e; exact h ⟨rfl, q.2.2⟩
      · exact h2 ⟨q.1, by omega, q.2.2⟩
theorem c_cpJ {ρ : RT} {f : IT} {g : JT} (j n a : Nat) (ea : a = 107 + j) (ha : kd a = (13, 2 * n)) (hn : n ≤ 1000) (hh : half (107 + j) = n) : C_X12_copies [.ref a, .int (iz (n : Int))] ρ (kpN f j) g (fun r ρ' f' g' => r = none ∧ ρ' = ρ ∧ f' = kpN f (j + 1) ∧ g' = g) := by
  subst ea
  have := c_copies (ρ := ρ) (f := kpN f j) (g := g) ha hn
  rw [kpN_s hh] at this
  exact this
theorem c_cpJz {ρ : RT} {f : IT} {g : JT} (j n a : Nat) (ea : a = 107 + j) (ha : kd a = (15, 2 * n)) (hn : n ≤ 1000) (hh : half (107 + j) = n) (hb : ∀ k, f a k = 0 ∨ f a k = 1) : C_X12_copiesOf [.ref a, .int (iz (n : Int))] ρ (kpN f j) g (fun r ρ' f' g' => r = none ∧ ρ' = ρ ∧ f' = kpN f (j + 1) ∧ g' = g) := by
  subst ea
  have := c_copiesOf (ρ := ρ) (f := kpN f j) (g := g) ha hn (fun k => by unfold kpN; rw [if_neg (by omega)]; exact hb k)
  rw [kpN_s hh] at this
  exact this
def kp8 (f : IT) : IT := u2 (u2 (u2 (u2 (u2 (u2 (u2 (u2 f 104 12 (f 104 20)) 104 13 (f 104 21)) 104 14 (f 104 22)) 104 15 (f 104 23)) 104 16 (f 104 24)) 104 17 (f 104 25)) 104 18 (f 104 26)) 104 19 (f 104 27)
def kpF (f : IT) : IT := u2 (u2 (u2 (u2 (u2 (u2 (u2 (kpN (kp8 f) 26) 104 67 (f 104 26)) 104 68 0) 104 78 0) 104 82 0) 104 90 0) 104 91 (-1)) 104 97 0
def kpG (f : IT) (g : JT) : JT := u2 g 104 69 (f 104 27)
theorem kpN_4 {f : IT} {j k : Nat} : kpN f j 104 k = f 104 k := by unfold kpN; rw [if_neg (by omega)]
theorem w_keep64 {ρ : RT} {f F : IT} {g : JT} {Q : QT} (hρ : Fx ρ) (r8 : ∀ a k, a ≠ 104 → F a k = f a k) (hR : ∀ k, (f 110 k = 0 ∨ f 110 k = 1) ∧ (f 111 k = 0 ∨ f 111 k = 1) ∧ (f 127 k = 0 ∨ f 127 k = 1)) (h19 : ri (F 104 19)) (hQ : Q none ρ (u2 (u2 (u2 (u2 (u2 (u2 (u2 (kpN F 26) 104 67 (F 104 18)) 104 68 0) 104 78 0) 104 82 0) 104 90 0) 104 91 (-1)) 104 97 0) (u2 g 104 69 (F 104 19))) :
    V_X12_keepText Q 64 [.ref 104] [] ρ (kpN F 0) g := by
  refine V_al0n dX12_keepText_64 ?_
  refine V_getR kk104 (by decide) fl_X12_20 (fx_104_30 hρ) dX12_keepText_65 ?_
  refine V_bipush dX12_keepText_68 rfl ?_
  refine V_callS (as := [_, _]) ml_X12_274 sm_X12_copies dX12_keepText_70 rfl rfl (by decide) (by decide) (Nat.le_of_ble_eq_true rfl) (by decide) (by decide) rfl (c_cpJ 0 6 107 rfl rfl (by omega) rfl) ?_
  refine pq4 ?_
  refine V_al0n dX12_keepText_73 ?_
  refine V_getR kk104 (by decide) fl_X12_23 (fx_104_31 hρ) dX12_keepText_74 ?_
  refine V_bipush dX12_keepText_77 rfl ?_
  refine V_callS (as := [_, _]) ml_X12_274 sm_X12_copies dX12_keepText_79 rfl rfl (by decide) (by decide) (Nat.le_of_ble_eq_true rfl) (by decide) (by decide) rfl (c_cpJ 1 6 108 rfl rfl (by omega) rfl) ?_
  refine pq4 ?_
  refine V_al0n dX12_keepText_82 ?_
  refine V_getR kk104 (by decide) fl_X12_26 (fx_104_32 hρ) dX12_keepText_83 ?_
  refine V_bipush dX12_keepText_86 rfl ?_
  refine V_callS (as := [_, _]) ml_X12_274 sm_X12_copies dX12_keepText_88 rfl rfl (by decide) (by decide) (Nat.le_of_ble_eq_true rfl) (by decide) (by decide) rfl (c_cpJ 2 6 109 rfl rfl (by omega) rfl) ?_
  refine pq4 ?_
  refine V_al0n dX12_keepText_91 ?_
  refine V_getR kk104 (by decide) fl_X12_29 (fx_104_33 hρ) dX12_keepText_92 ?_
  refine V_bipush dX12_keepText_95 rfl ?_
  refine V_callS (as := [_, _]) ml_X12_278 sm_X12_copiesOf dX12_keepText_97 rfl rfl (by decide) (by decide) (Nat.le_of_ble_eq_true rfl) (by decide) (by decide) rfl (c_cpJz 3 6 110 rfl rfl (by omega) rfl (fun k => by rw [r8 110 k (by omega)]; exact (hR k).1)) ?_
  refine pq4 ?_
  refine V_al0n dX12_keepText_100 ?_
  refine V_getR kk104 (by decide) fl_X12_33 (fx_104_34 hρ) dX12_keepText_101 ?_
  refine V_bipush dX12_keepText_104 rfl ?_
  refine V_callS (as := [_, _]) ml_X12_278 sm_X12_copiesOf dX12_keepText_106 rfl rfl (by decide) (by decide) (Nat.le_of_ble_eq_true rfl) (by decide) (by decide) rfl (c_cpJz 4 6 111 rfl rfl (by omega) rfl (fun k => by rw [r8 111 k (by omega)]; exact (hR k).2.1)) ?_
  refine pq4 ?_
  refine V_al0n dX12_keepText_109 ?_
  refine V_getR kk104 (by decide) fl_X12_36 (fx_104_35 hρ) dX12_keepText_110 ?_
  refine V_iconst dX12_keepText_113 ?_
  refine V_callS (as := [_, _]) ml_X12_274 sm_X12_copies dX12_keepText_114 rfl rfl (by decide) (by decide) (Nat.le_of_ble_eq_true rfl) (by decide) (by decide) rfl (c_cpJ 5 5 112 rfl rfl (by omega) rfl) ?_
  refine pq4 ?_
  refine V_al0n dX12_keepText_117 ?_
  refine V_getR kk104 (by decide) fl_X12_39 (fx_104_36 hρ) dX12_keepText_118 ?_
  refine V_iconst dX12_keepText_121 ?_
  refine V_callS (as := [_, _]) ml_X12_274 sm_X12_copies dX12_keepText_122 rfl rfl (by decide) (by decide) (Nat.le_of_ble_eq_true rfl) (by decide) (by decide) rfl (c_cpJ 6 5 113 rfl rfl (by omega) rfl) ?_
  refine pq4 ?_
  refine V_al0n dX12_keepText_125 ?_
  refine V_getR kk104 (by decide) fl_X12_42 (fx_104_37 hρ) dX12_keepText_126 ?_
  refine V_iconst dX12_keepText_129 ?_
  refine V_callS (as := [_, _]) ml_X12_274 sm_X12_copies dX12_keepText_130 rfl rfl (by decide) (by decide) (Nat.le_of_ble_eq_true rfl) (by decide) (by decide) rfl (c_cpJ 7 5 114 rfl rfl (by omega) rfl) ?_
  refine pq4 ?_
  refine V_al0n dX12_keepText_133 ?_
  refine V_getR kk104 (by decide) fl_X12_45 (fx_104_38 hρ) dX12_keepText_134 ?_
  refine V_iconst dX12_keepText_137 ?_
  refine V_callS (as := [_, _]) ml_X12_274 sm_X12_copies dX12_keepText_138 rfl rfl (by decide) (by decide) (Nat.le_of_ble_eq_true rfl) (by decide) (by decide) rfl (c_cpJ 8 5 115 rfl rfl (by omega) rfl) ?_
  refine pq4 ?_
  refine V_al0n dX12_keepText_141 ?_
  refine V_getR kk104 (by decide) fl_X12_48 (fx_104_39 hρ) dX12_keepText_142 ?_
  refine V_iconst dX12_keepText_145 ?_
  refine V_callS (as := [_, _]) ml_X12_274 sm_X12_copies dX12_keepText_146 rfl rfl (by decide) (by decide) (Nat.le_of_ble_eq_true rfl) (by decide) (by decide) rfl (c_cpJ 9 3 116 rfl rfl (by omega) rfl) ?_
  refine pq4 ?_
  refine V_al0n dX12_keepText_149 ?_
  refine V_getR kk104 (by decide) fl_X12_51 (fx_104_40 hρ) dX12_keepText_150 ?_
  refine V_iconst dX12_keepText_153 ?_
  refine V_callS (as := [_, _]) ml_X12_274 sm_X12_copies dX12_keepText_154 rfl rfl (by decide) (by decide) (Nat.le_of_ble_eq_true rfl) (by decide) (by decide) rfl (c_cpJ 10 3 117 rfl rfl (by omega) rfl) ?_
  refine pq4 ?_
  refine V_al0n dX12_keepText_157 ?_
  refine V_getR kk104 (by decide) fl_X12_54 (fx_104_41 hρ) dX12_keepText_158 ?_
  refine V_iconst dX12_keepText_161 ?_
  refine V_callS (as := [_, _]) ml_X12_274 sm_X12_copies dX12_keepText_162 rfl rfl (by decide) (by decide) (Nat.le_of_ble_eq_true rfl) (by decide) (by decide) rfl (c_cpJ 11 3 118 rfl rfl (by omega) rfl) ?_
  refine pq4 ?_
  refine V_al0n dX12_keepText_165 ?_
  refine V_getR kk104 (by decide) fl_X12_57 (fx_104_42 hρ) dX12_keepText_166 ?_
  refine V_iconst dX12_keepText_169 ?_
  refine V_callS (as := [_, _]) ml_X12_274 sm_X12_copies dX12_keepText_170 rfl rfl (by decide) (by decide) (Nat.le_of_ble_eq_true rfl) (by decide) (by decide) rfl (c_cpJ 12 3 119 rfl rfl (by omega) rfl) ?_
  refine pq4 ?_
  refine V_al0n dX12_keepText_173 ?_
  refine V_getR kk104 (by decide) fl_X12_60 (fx_104_43 hρ) dX12_keepText_174 ?_
  refine V_iconst dX12_keepText_177 ?_
  refine V_callS (as := [_, _]) ml_X12_274 sm_X12_copies dX12_keepText_178 rfl rfl (by decide) (by decide) (Nat.le_of_ble_eq_true rfl) (by decide) (by decide) rfl (c_cpJ 13 5 120 rfl rfl (by omega) rfl) ?_
  refine pq4 ?_
  refine V_al0n dX12_keepText_181 ?_
  refine V_getR kk104 (by decide) fl_X12_63 (fx_104_44 hρ) dX12_keepText_182 ?_
  refine V_iconst dX12_keepText_185 ?_
  refine V_callS (as := [_, _]) ml_X12_274 sm_X12_copies dX12_keepText_186 rfl rfl (by decide) (by decide) (Nat.le_of_ble_eq_true rfl) (by decide) (by decide) rfl (c_cpJ 14 5 121 rfl rfl (by omega) rfl) ?_
  refine pq4 ?_
  refine V_al0n dX12_keepText_189 ?_
  refine V_getR kk104 (by decide) fl_X12_66 (fx_104_45 hρ) dX12_keepText_190 ?_
  refine V_iconst dX12_keepText_193 ?_
  refine V_callS (as := [_, _]) ml_X12_274 sm_X12_copies dX12_keepText_194 rfl rfl (by decide) (by decide) (Nat.le_of_ble_eq_true rfl) (by decide) (by decide) rfl (c_cpJ 15 5 122 rfl rfl (by omega) rfl) ?_
  refine pq4 ?_
  refine V_al0n dX12_keepText_197 ?_
  refine V_getR kk104 (by decide) fl_X12_69 (fx_104_46 hρ) dX12_keepText_198 ?_
  refine V_bipush dX12_keepText_201 rfl ?_
  refine V_callS (as := [_, _]) ml_X12_274 sm_X12_copies dX12_keepText_203 rfl rfl (by decide) (by decide) (Nat.le_of_ble_eq_true rfl) (by decide) (by decide) rfl (c_cpJ 16 30 123 rfl rfl (by omega) rfl) ?_
  refine pq4 ?_
  refine V_al0n dX12_keepText_206 ?_
  refine V_getR kk104 (by decide) fl_X12_72 (fx_104_47 hρ) dX12_keepText_207 ?_
  refine V_iconst dX12_keepText_210 ?_
  refine V_callS (as := [_, _]) ml_X12_274 sm_X12_copies dX12_keepText_211 rfl rfl (by decide) (by decide) (Nat.le_of_ble_eq_true rfl) (by decide) (by decide) rfl (c_cpJ 17 4 124 rfl rfl (by omega) rfl) ?_
  refine pq4 ?_
  refine V_al0n dX12_keepText_214 ?_
  refine V_getR kk104 (by decide) fl_X12_75 (fx_104_48 hρ) dX12_keepText_215 ?_
  refine V_iconst dX12_keepText_218 ?_
  refine V_callS (as := [_, _]) ml_X12_274 sm_X12_copies dX12_keepText_219 rfl rfl (by decide) (by decide) (Nat.le_of_ble_eq_true rfl) (by decide) (by decide) rfl (c_cpJ 18 4 125 rfl rfl (by omega) rfl) ?_
  refine pq4 ?_
  refine V_al0n dX12_keepText_222 ?_
  refine V_getR kk104 (by decide) fl_X12_78 (fx_104_49 hρ) dX12_keepText_223 ?_
  refine V_iconst dX12_keepText_226 ?_
  refine V_callS (as := [_, _]) ml_X12_274 sm_X12_copies dX12_keepText_227 rfl rfl (by decide) (by decide) (Nat.le_of_ble_eq_true rfl) (by decide) (by decide) rfl (c_cpJ 19 4 126 rfl rfl (by omega) rfl) ?_
  refine pq4 ?_
  refine V_al0n dX12_keepText_230 ?_
  refine V_getR kk104 (by decide) fl_X12_81 (fx_104_50 hρ) dX12_keepText_231 ?_
  refine V_bipush dX12_keepText_234 rfl ?_
  refine V_callS (as := [_, _]) ml_X12_278 sm_X12_copiesOf dX12_keepText_236 rfl rfl (by decide) (by decide) (Nat.le_of_ble_eq_true rfl) (by decide) (by decide) rfl (c_cpJz 20 8 127 rfl rfl (by omega) rfl (fun k => by rw [r8 127 k (by omega)]; exact (hR k).2.2)) ?_
  refine pq4 ?_
  refine V_al0n dX12_keepText_239 ?_
  refine V_getR kk104 (by decide) fl_X12_84 (fx_104_51 hρ) dX12_keepText_240 ?_
  refine V_bipush dX12_keepText_243 rfl ?_
  refine V_callS (as := [_, _]) ml_X12_274 sm_X12_copies dX12_keepText_245 rfl rfl (by decide) (by decide) (Nat.le_of_ble_eq_true rfl) (by decide) (by decide) rfl (c_cpJ 21 8 128 rfl rfl (by omega) rfl) ?_
  refine pq4 ?_
  refine V_al0n dX12_keepText_248 ?_
  refine V_getR kk104 (by decide) fl_X12_87 (fx_104_52 hρ) dX12_keepText_249 ?_
  refine V_bipush dX12_keepText_252 rfl ?_
  refine V_callS (as := [_, _]) ml_X12_274 sm_X12_copies dX12_keepText_254 rfl rfl (by decide) (by decide) (Nat.le_of_ble_eq_true rfl) (by decide) (by decide) rfl (c_cpJ 22 8 129 rfl rfl (by omega) rfl) ?_
  refine pq4 ?_
  refine V_al0n dX12_keepText_257 ?_
  refine V_getR kk104 (by decide) fl_X12_90 (fx_104_53 hρ) dX12_keepText_258 ?_
  refine V_bipush dX12_keepText_261 rfl ?_
  refine V_callS (as := [_, _]) ml_X12_274 sm_X12_copies dX12_keepText_263 rfl rfl (by decide) (by decide) (Nat.le_of_ble_eq_true rfl) (by decide) (by decide) rfl (c_cpJ 23 64 130 rfl rfl (by omega) rfl) ?_
  refine pq4 ?_
  refine V_al0n dX12_keepText_266 ?_
  refine V_getR kk104 (by decide) fl_X12_93 (fx_104_54 hρ) dX12_keepText_267 ?_
  refine V_bipush dX12_keepText_270 rfl ?_
  refine V_callS (as := [_, _]) ml_X12_274 sm_X12_copies dX12_keepText_272 rfl rfl (by decide) (by decide) (Nat.le_of_ble_eq_true rfl) (by decide) (by decide) rfl (c_cpJ 24 64 131 rfl rfl (by omega) rfl) ?_
  refine pq4 ?_
  refine V_al0n dX12_keepText_275 ?_
  refine V_getR kk104 (by decide) fl_X12_96 (fx_104_55 hρ) dX12_keepText_276 ?_
  refine V_bipush dX12_keepText_279 rfl ?_
  refine V_callS (as := [_, _]) ml_X12_274 sm_X12_copies dX12_keepText_281 rfl rfl (by decide) (by decide) (Nat.le_of_ble_eq_true rfl) (by decide) (by decide) rfl (c_cpJ 25 64 132 rfl rfl (by omega) rfl) ?_
  refine pq4 ?_
  refine V_al0n dX12_keepText_284 ?_
  refine V_al0n dX12_keepText_285 ?_
  refine V_getI kk104 (by decide) fl_X12_268 kpN_4 dX12_keepText_286 ?_
  refine V_putI kk104 (by decide) fl_X12_282 rfl dX12_keepText_289 ?_
  refine V_al0n dX12_keepText_292 ?_
  refine V_iconst dX12_keepText_293 ?_
  refine V_putZ kk104 (by decide) fl_X12_285 rfl (by first | exact Or.inl rfl | exact Or.inr rfl | (unfold bz; split <;> simp)) dX12_keepText_294 ?_
  refine V_al0n dX12_keepText_297 ?_
  refine V_al0n dX12_keepText_298 ?_
  refine V_getI kk104 (by decide) fl_X12_271 (u2_n (by decide) (u2_n (by decide) kpN_4)) dX12_keepText_299 ?_
  refine V_i2l dX12_keepText_302 h19 ?_
  refine V_putJ kk104 (by decide) fl_X12_288 rfl dX12_keepText_303 ?_
  refine V_al0n dX12_keepText_306 ?_
  refine V_iconst dX12_keepText_307 ?_
  refine V_putZ kk104 (by decide) fl_X12_292 rfl (by first | exact Or.inl rfl | exact Or.inr rfl | (unfold bz; split <;> simp)) dX12_keepText_308 ?_
  refine V_al0n dX12_keepText_311 ?_
  refine V_iconst dX12_keepText_312 ?_
  refine V_putI kk104 (by decide) fl_X12_295 rfl dX12_keepText_313 ?_
  refine V_al0n dX12_keepText_316 ?_
  refine V_iconst dX12_keepText_317 ?_
  refine V_putI kk104 (by decide) fl_X12_298 rfl dX12_keepText_318 ?_
  refine V_al0n dX12_keepText_321 ?_
  refine V_iconst dX12_keepText_322 ?_
  refine V_putI kk104 (by decide) fl_X12_127 rfl dX12_keepText_323 ?_
  refine V_al0n dX12_keepText_326 ?_
  refine V_iconst dX12_keepText_327 ?_
  refine V_putZ kk104 (by decide) fl_X12_301 rfl (by first | exact Or.inl rfl | exact Or.inr rfl | (unfold bz; split <;> simp)) dX12_keepText_328 ?_
  exact V_return rfl hQ dX12_keepText_331
theorem c_keepText {ρ : RT} {f : IT} {g : JT} (hρ : Fx ρ) (hR : ∀ k, (f 110 k = 0 ∨ f 110 k = 1) ∧ (f 111 k = 0 ∨ f 111 k = 1) ∧ (f 127 k = 0 ∨ f 127 k = 1)) (h27 : ri (f 104 27)) : C_X12_keepText [.ref 104] ρ f g (fun r ρ' f' g' => r = none ∧ ρ' = ρ ∧ f' = kpF f ∧ g' = kpG f g) := by
  have r8 : ∀ a k, a ≠ 104 → kp8 f a k = f a k := fun a k h => by unfold kp8; (repeat rw [u2_o (by omega)])
  have e18 : kp8 f 104 18 = f 104 26 := by unfold kp8; rw [u2_o (by omega), u2_s]
  have e19 : kp8 f 104 19 = f 104 27 := by unfold kp8; rw [u2_s]
  refine Ct.ofV (by decide) rfl (Nat.le_of_ble_eq_true rfl) ?_
  refine V_al0n dX12_keepText_0 ?_
  refine V_al0n dX12_keepText_1 ?_
  refine V_getI kk104 (by decide) fl_X12_216 rfl dX12_keepText_2 ?_
  refine V_putI kk104 (by decide) fl_X12_250 rfl dX12_keepText_5 ?_
  refine V_al0n dX12_keepText_8 ?_
  refine V_al0n dX12_keepText_9 ?_
  refine V_getI kk104 (by decide) fl_X12_219 (u2_n (by decide) rfl) dX12_keepText_10 ?_
  refine V_putI kk104 (by decide) fl_X12_253 rfl dX12_keepText_13 ?_
  refine V_al0n dX12_keepText_16 ?_
  refine V_al0n dX12_keepText_17 ?_
  refine V_getI kk104 (by decide) fl_X12_222 (u2_n (by decide) (u2_n (by decide) rfl)) dX12_keepText_18 ?_
  refine V_putI kk104 (by decide) fl_X12_256 rfl dX12_keepText_21 ?_
  refine V_al0n dX12_keepText_24 ?_
  refine V_al0n dX12_keepText_25 ?_
  refine V_getI kk104 (by decide) fl_X12_225 (u2_n (by decide) (u2_n (by decide) (u2_n (by decide) rfl))) dX12_keepText_26 ?_
  refine V_putI kk104 (by decide) fl_X12_259 rfl dX12_keepText_29 ?_
  refine V_al0n dX12_keepText_32 ?_
  refine V_al0n dX12_keepText_33 ?_
  refine V_getI kk104 (by decide) fl_X12_228 (u2_n (by decide) (u2_n (by decide) (u2_n (by decide) (u2_n (by decide) rfl)))) dX12_keepText_34 ?_
  refine V_putI kk104 (by decide) fl_X12_262 rfl dX12_keepText_37 ?_
  refine V_al0n dX12_keepText_40 ?_
  refine V_al0n dX12_keepText_41 ?_
  refine V_getI kk104 (by decide) fl_X12_231 (u2_n (by decide) (u2_n (by decide) (u2_n (by decide) (u2_n (by decide) (u2_n (by decide) rfl))))) dX12_keepText_42 ?_
  refine V_putI kk104 (by decide) fl_X12_265 rfl dX12_keepText_45 ?_
  refine V_al0n dX12_keepText_48 ?_
  refine V_al0n dX12_keepText_49 ?_
  refine V_getI kk104 (by decide) fl_X12_237 (u2_n (by decide) (u2_n (by decide) (u2_n (by decide) (u2_n (by decide) (u2_n (by decide) (u2_n (by decide) rfl)))))) dX12_keepText_50 ?_
  refine V_putI kk104 (by decide) fl_X12_268 rfl dX12_keepText_53 ?_
  refine V_al0n dX12_keepText_56 ?_
  refine V_al0n dX12_keepText_57 ?_
  refine V_getI kk104 (by decide) fl_X12_240 (u2_n (by decide) (u2_n (by decide) (u2_n (by decide) (u2_n (by decide) (u2_n (by decide) (u2_n (by decide) (u2_n (by decide) rfl))))))) dX12_keepText_58 ?_
  refine V_putI kk104 (by decide) fl_X12_271 rfl dX12_keepText_61 ?_
  rw [show (u2 (u2 (u2 (u2 (u2 (u2 (u2 (u2 f 104 12 (f 104 20)) 104 13 (f 104 21)) 104 14 (f 104 22)) 104 15 (f 104 23)) 104 16 (f 104 24)) 104 17 (f 104 25)) 104 18 (f 104 26)) 104 19 (f 104 27)) = kp8 f from rfl, ← kpN_0 (f := kp8 f)]
  exact w_keep64 hρ r8 hR (by rw [e19]; exact h27) (by rw [e18, e19]; exact ⟨rfl, rfl, rfl, rfl⟩)

