/-! text of the class -/
section CTEXT
variable {T : TT} {b o : Nat} {ρ : RT} {f : IT} {g : JT}
theorem c_spclear : C_X5_clear [.ref 73] ρ f g (fun r ρ' f' g' => r = none ∧ ρ' = ρ ∧ f' = u2 (u2 (u2 f 73 4 0) 73 5 (-1)) 73 9 (-1) ∧ g' = g) := by
  refine Ct.ofV (by decide) rfl (Nat.le_of_ble_eq_true rfl) ?_
  refine V_al0n dX5_clear_0 ?_
  refine V_iconst dX5_clear_1 ?_
  refine V_putI kk73 (by decide) fl_X5_25 rfl dX5_clear_2 ?_
  refine V_al0n dX5_clear_5 ?_
  refine V_iconst dX5_clear_6 ?_
  refine V_putI kk73 (by decide) fl_X5_29 rfl dX5_clear_7 ?_
  refine V_al0n dX5_clear_10 ?_
  refine V_iconst dX5_clear_11 ?_
  refine V_putI kk73 (by decide) fl_X5_42 rfl dX5_clear_12 ?_
  exact V_return rfl ⟨rfl, rfl, rfl, rfl⟩ dX5_clear_15
theorem c_forget : C_X8_forget [.ref 72] ρ f g (fun r ρ' f' g' => r = none ∧ ρ' = ρ ∧ f' = u2 f 72 0 (-1) ∧ g' = g) := by
  refine Ct.ofV (by decide) rfl (Nat.le_of_ble_eq_true rfl) ?_
  refine V_al0n dX8_forget_0 ?_
  refine V_iconst dX8_forget_1 ?_
  refine V_putI kk72 (by decide) fl_X8_9 rfl dX8_forget_2 ?_
  exact V_return rfl ⟨rfl, rfl, rfl, rfl⟩ dX8_forget_5
theorem c_lay (hρ : Fx ρ) (hb : b = 5 ∨ b = 30) (hC : CT T b f) (hk : TOK T) {fl ra : Bool} (h4 : f 55 4 = bz fl) (h3 : f 55 3 = bz ra) : C_X0_lay [.ref 55, .ref b] ρ f g (fun r ρ' f' g' => r = none ∧ ρ' = u2 ρ 55 0 (some b) ∧ f' = u2 (spF T fl ra f 6) 55 5 (f 55 5 + 1) ∧ g' = g) := by
  have hρ1 : Fx (u2 ρ 55 0 (some b)) := hρ.cg (fun a k z1 z2 z3 z4 => u2_o (by omega))
  refine Ct.ofV (by decide) rfl (Nat.le_of_ble_eq_true rfl) ?_
  refine V_al0n dX0_lay_0 ?_
  refine V_al1n dX0_lay_1 ?_
  refine V_putR kk55 (by decide) fl_X0_48 rfl dX0_lay_2 ?_
  refine V_al0n dX0_lay_5 ?_
  refine V_callV (as := []) ml_X0_52 im_X0_spread se_X0_spread kk55 (by decide) (by decide) dX0_lay_6 rfl rfl (by decide) (by decide) (Nat.le_of_ble_eq_true rfl) (by decide) (by decide) rfl (c_spread hρ1 u2_s hb hC hk h4 h3) ?_
  refine pq4 ?_
  exact V_return rfl ⟨rfl, rfl, rfl, rfl⟩ dX0_lay_9
def txE (L : Int) (f : IT) : IT := u2 (u2 (u2 (u2 (u2 (u2 (u2 (u2 (u2 f 0 5 L) 0 6 0) 62 0 0) 0 10 0) 0 12 0) 73 4 0) 73 5 (-1)) 73 9 (-1)) 72 0 (-1)
def txL (T : TT) (fl ra : Bool) (L : Int) (f : IT) : IT := u2 (spF T fl ra (txE L f) 6) 55 5 (txE L f 55 5 + 1)
theorem txE_o {L : Int} {a k : Nat} (h : ¬ (a = 0 ∧ 5 ≤ k)) (h1 : a ≠ 62) (h2 : a ≠ 72) (h3 : ¬ (a = 73 ∧ (k = 4 ∨ k = 5 ∨ k = 9))) : txE L f a k = f a k := by
  unfold txE
  rw [u2_o (by omega), u2_o (by omega), u2_o (by omega), u2_o (by omega), u2_o (by omega), u2_o (by omega), u2_o (by omega), u2_o (by omega), u2_o (by omega)]
theorem txL_e {fl ra : Bool} {L : Int} {a k : Nat} (h : ¬ (a = 55 ∧ k = 5)) (h1 : ¬ (56 ≤ a ∧ a ≤ 59)) : txL T fl ra L f a k = txE L f a k := by
  unfold txL spF
  rw [u2_o (by omega), if_neg (by omega)]
theorem txL_o {fl ra : Bool} {L : Int} {a k : Nat} (h : ¬ (a = 0 ∧ 5 ≤ k)) (h0 : ¬ (55 ≤ a ∧ a ≤ 59)) (h1 : a ≠ 62) (h2 : a ≠ 72) (h3 : ¬ (a = 73 ∧ (k = 4 ∨ k = 5 ∨ k = 9))) : txL T fl ra L f a k = f a k := by
  rw [txL_e (by omega) (by omega), txE_o h h1 h2 h3]
theorem w_text55 {Q : QT} {n : Int} (hρ : Fx ρ) (hb : b = 5 ∨ b = 30) (h03 : ρ 0 3 = some b) (hC : CT T b f) (hk : TOK T) {fl ra : Bool} (h4 : f 55 4 = bz fl) (h3 : f 55 3 = bz ra) {L S : Int} (hL : (f b 2 = -1 ∧ L = 8) ∨ (f b 2 = L ∧ 0 ≤ L ∧ L ≤ 30)) (hS : (f b 3 = -1 ∧ S = 0) ∨ (f b 3 = S ∧ 0 ≤ S ∧ S ≤ 99999)) {l : Nat} (h44 : f b 4 = (l : Int))
    (hQ : Q (some (.int (iz (l : Int)))) (u2 ρ 55 0 (some b)) (txL T fl ra L f) (u2 g 62 14 S)) : V_X11_text Q 55 [.ref 0, .int (iz n), .ref o] [] ρ f g := by
  have hCE : ∀ L, CT T b (txE L f) := fun L => hC.cg hb (fun a k z1 z2 => txE_o (by omega) (by omega) (by omega) (by omega))
  have hlay : ∀ (L : Int) (g : JT), C_X0_lay [.ref 55, .ref b] ρ (txE L f) g (fun r ρ' f' g' => r = none ∧ ρ' = u2 ρ 55 0 (some b) ∧ f' = txL T fl ra L f ∧ g' = g) := fun L g => c_lay hρ hb (hCE L) hk (by rw [txE_o (by omega) (by omega) (by omega) (by omega)]; exact h4) (by rw [txE_o (by omega) (by omega) (by omega) (by omega)]; exact h3)
  have h4L : ∀ L, txL T fl ra L f b 4 = (l : Int) := fun L => (txL_o (by omega) (by omega) (by omega) (by omega) (by omega)).trans h44
  rcases hL with ⟨e2, rfl⟩ | ⟨e2, hL⟩
  · rcases hS with ⟨e3, rfl⟩ | ⟨e3, hS⟩
    · have := hb
      refine V_al0n dX11_text_55 ?_
      refine V_al0n dX11_text_56 ?_
      refine V_getR kk0 (by decide) fl_X11_29 h03 dX11_text_57 ?_
      refine V_getI (kb_0 hb) (kl_0 hb) fl_X11_119 e2 dX11_text_60 ?_
      refine V_iconst dX11_text_63 ?_
      refine V_icmp_ne (tgt := 72) dX11_text_64 rfl (by unfold ri; omega) (by unfold ri; omega) (fun b64 => ?_) (fun b64 => ?_)
      · exfalso; omega
      · refine V_bipush dX11_text_67 rfl ?_
        refine V_goto (tgt := 79) dX11_text_69 rfl ?_
        refine V_putI kk0 (by decide) fl_X11_36 rfl dX11_text_79 ?_
        refine V_al0n dX11_text_82 ?_
        refine V_iconst dX11_text_83 ?_
        refine V_putZ kk0 (by decide) fl_X11_39 rfl (by first | exact Or.inl rfl | exact Or.inr rfl | (unfold bz; split <;> simp)) dX11_text_84 ?_
        refine V_al0n dX11_text_87 ?_
        refine V_getR kk0 (by decide) fl_X11_55 (fx_0_8 hρ) dX11_text_88 ?_
        refine V_iconst dX11_text_91 ?_
        refine V_putZ kk62 (by decide) fl_X11_122 rfl (by first | exact Or.inl rfl | exact Or.inr rfl | (unfold bz; split <;> simp)) dX11_text_92 ?_
        refine V_al0n dX11_text_95 ?_
        refine V_getR kk0 (by decide) fl_X11_55 (fx_0_8 hρ) dX11_text_96 ?_
        refine V_al0n dX11_text_99 ?_
        refine V_getR kk0 (by decide) fl_X11_29 h03 dX11_text_100 ?_
        refine V_getI (kb_0 hb) (kl_0 hb) fl_X11_125 (u2_n (by omega) (u2_n (by omega) (u2_n (by omega) e3))) dX11_text_103 ?_
        refine V_iconst dX11_text_106 ?_
        refine V_icmp_ne (tgt := 114) dX11_text_107 rfl (by unfold ri; omega) (by unfold ri; omega) (fun b107 => ?_) (fun b107 => ?_)
        · exfalso; omega
        · refine V_lconst (a := 0) dX11_text_110 rfl ?_
          refine V_goto (tgt := 122) dX11_text_111 rfl ?_
          refine V_putJ kk62 (by decide) fl_X11_128 rfl dX11_text_122 ?_
          refine V_al0n dX11_text_125 ?_
          refine V_iconst dX11_text_126 ?_
          refine V_putI kk0 (by decide) fl_X11_63 rfl dX11_text_127 ?_
          refine V_al0n dX11_text_130 ?_
          refine V_iconst dX11_text_131 ?_
          refine V_putZ kk0 (by decide) fl_X11_69 rfl (by first | exact Or.inl rfl | exact Or.inr rfl | (unfold bz; split <;> simp)) dX11_text_132 ?_
          refine V_al0n dX11_text_135 ?_
          refine V_getR kk0 (by decide) fl_X11_100 (fx_0_18 hρ) dX11_text_136 ?_
          refine V_callV (as := []) ml_X11_132 im_X5_clear se_X5_clear kk73 (by decide) (by decide) dX11_text_139 rfl rfl (by decide) (by decide) (Nat.le_of_ble_eq_true rfl) (by decide) (by decide) rfl (c_spclear) ?_
          refine pq4 ?_
          refine V_al0n dX11_text_142 ?_
          refine V_getR kk0 (by decide) fl_X11_93 (fx_0_17 hρ) dX11_text_143 ?_
          refine V_callV (as := []) ml_X11_135 im_X8_forget se_X8_forget kk72 (by decide) (by decide) dX11_text_146 rfl rfl (by decide) (by decide) (Nat.le_of_ble_eq_true rfl) (by decide) (by decide) rfl (c_forget) ?_
          refine pq4 ?_
          refine V_al0n dX11_text_149 ?_
          refine V_getR kk0 (by decide) fl_X11_48 (fx_0_7 hρ) dX11_text_150 ?_
          refine V_al0n dX11_text_153 ?_
          refine V_getR kk0 (by decide) fl_X11_29 h03 dX11_text_154 ?_
          refine V_callV (as := [_]) ml_X11_138 im_X0_lay se_X0_lay kk55 (by decide) (by decide) dX11_text_157 rfl rfl (by decide) (by decide) (Nat.le_of_ble_eq_true rfl) (by decide) (by decide) rfl (hlay 8 _) ?_
          refine pq4 ?_
          refine V_al0n dX11_text_160 ?_
          refine V_getR kk0 (by decide) fl_X11_29 (u2_n (by decide) h03) dX11_text_161 ?_
          refine V_getI (kb_0 hb) (kl_0 hb) fl_X11_141 (h4L _) dX11_text_164 ?_
          exact V_ireturn rfl hQ dX11_text_167
    · have := hb
      refine V_al0n dX11_text_55 ?_
      refine V_al0n dX11_text_56 ?_
      refine V_getR kk0 (by decide) fl_X11_29 h03 dX11_text_57 ?_
      refine V_getI (kb_0 hb) (kl_0 hb) fl_X11_119 e2 dX11_text_60 ?_
      refine V_iconst dX11_text_63 ?_
      refine V_icmp_ne (tgt := 72) dX11_text_64 rfl (by unfold ri; omega) (by unfold ri; omega) (fun b64 => ?_) (fun b64 => ?_)
      · exfalso; omega
      · refine V_bipush dX11_text_67 rfl ?_
        refine V_goto (tgt := 79) dX11_text_69 rfl ?_
        refine V_putI kk0 (by decide) fl_X11_36 rfl dX11_text_79 ?_
        refine V_al0n dX11_text_82 ?_
        refine V_iconst dX11_text_83 ?_
        refine V_putZ kk0 (by decide) fl_X11_39 rfl (by first | exact Or.inl rfl | exact Or.inr rfl | (unfold bz; split <;> simp)) dX11_text_84 ?_
        refine V_al0n dX11_text_87 ?_
        refine V_getR kk0 (by decide) fl_X11_55 (fx_0_8 hρ) dX11_text_88 ?_
        refine V_iconst dX11_text_91 ?_
        refine V_putZ kk62 (by decide) fl_X11_122 rfl (by first | exact Or.inl rfl | exact Or.inr rfl | (unfold bz; split <;> simp)) dX11_text_92 ?_
        refine V_al0n dX11_text_95 ?_
        refine V_getR kk0 (by decide) fl_X11_55 (fx_0_8 hρ) dX11_text_96 ?_
        refine V_al0n dX11_text_99 ?_
        refine V_getR kk0 (by decide) fl_X11_29 h03 dX11_text_100 ?_
        refine V_getI (kb_0 hb) (kl_0 hb) fl_X11_125 (u2_n (by omega) (u2_n (by omega) (u2_n (by omega) e3))) dX11_text_103 ?_
        refine V_iconst dX11_text_106 ?_
        refine V_icmp_ne (tgt := 114) dX11_text_107 rfl (by unfold ri; omega) (by unfold ri; omega) (fun b107 => ?_) (fun b107 => ?_)
        · refine V_al0n dX11_text_114 ?_
          refine V_getR kk0 (by decide) fl_X11_29 h03 dX11_text_115 ?_
          refine V_getI (kb_0 hb) (kl_0 hb) fl_X11_125 (u2_n (by omega) (u2_n (by omega) (u2_n (by omega) e3))) dX11_text_118 ?_
          refine V_i2l dX11_text_121 (by unfold ri; omega) ?_
          refine V_putJ kk62 (by decide) fl_X11_128 rfl dX11_text_122 ?_
          refine V_al0n dX11_text_125 ?_
          refine V_iconst dX11_text_126 ?_
          refine V_putI kk0 (by decide) fl_X11_63 rfl dX11_text_127 ?_
          refine V_al0n dX11_text_130 ?_
          refine V_iconst dX11_text_131 ?_
          refine V_putZ kk0 (by decide) fl_X11_69 rfl (by first | exact Or.inl rfl | exact Or.inr rfl | (unfold bz; split <;> simp)) dX11_text_132 ?_
          refine V_al0n dX11_text_135 ?_
          refine V_getR kk0 (by decide) fl_X11_100 (fx_0_18 hρ) dX11_text_136 ?_
          refine V_callV (as := []) ml_X11_132 im_X5_clear se_X5_clear kk73 (by decide) (by decide) dX11_text_139 rfl rfl (by decide) (by decide) (Nat.le_of_ble_eq_true rfl) (by decide) (by decide) rfl (c_spclear) ?_
          refine pq4 ?_
          refine V_al0n dX11_text_142 ?_
          refine V_getR kk0 (by decide) fl_X11_93 (fx_0_17 hρ) dX11_text_143 ?_
          refine V_callV (as := []) ml_X11_135 im_X8_forget se_X8_forget kk72 (by decide) (by decide) dX11_text_146 rfl rfl (by decide) (by decide) (Nat.le_of_ble_eq_true rfl) (by decide) (by decide) rfl (c_forget) ?_
          refine pq4 ?_
          refine V_al0n dX11_text_149 ?_
          refine V_getR kk0 (by decide) fl_X11_48 (fx_0_7 hρ) dX11_text_150 ?_
          refine V_al0n dX11_text_153 ?_
          refine V_getR kk0 (by decide) fl_X11_29 h03 dX11_text_154 ?_
          refine V_callV (as := [_]) ml_X11_138 im_X0_lay se_X0_lay kk55 (by decide) (by decide) dX11_text_157 rfl rfl (by decide) (by decide) (Nat.le_of_ble_eq_true rfl) (by decide) (by decide) rfl (hlay 8 _) ?_
          refine pq4 ?_
          refine V_al0n dX11_text_160 ?_
          refine V_getR kk0 (by decide) fl_X11_29 (u2_n (by decide) h03) dX11_text_161 ?_
          refine V_getI (kb_0 hb) (kl_0 hb) fl_X11_141 (h4L _) dX11_text_164 ?_
          exact V_ireturn rfl hQ dX11_text_167
        · exfalso; omega
  · rcases hS with ⟨e3, rfl⟩ | ⟨e3, hS⟩
    · have := hb
      refine V_al0n dX11_text_55 ?_
      refine V_al0n dX11_text_56 ?_
      refine V_getR kk0 (by decide) fl_X11_29 h03 dX11_text_57 ?_
      refine V_getI (kb_0 hb) (kl_0 hb) fl_X11_119 e2 dX11_text_60 ?_
      refine V_iconst dX11_text_63 ?_
      refine V_icmp_ne (tgt := 72) dX11_text_64 rfl (by unfold ri; omega) (by unfold ri; omega) (fun b64 => ?_) (fun b64 => ?_)
      · refine V_al0n dX11_text_72 ?_
        refine V_getR kk0 (by decide) fl_X11_29 h03 dX11_text_73 ?_
        refine V_getI (kb_0 hb) (kl_0 hb) fl_X11_119 e2 dX11_text_76 ?_
        refine V_putI kk0 (by decide) fl_X11_36 rfl dX11_text_79 ?_
        refine V_al0n dX11_text_82 ?_
        refine V_iconst dX11_text_83 ?_
        refine V_putZ kk0 (by decide) fl_X11_39 rfl (by first | exact Or.inl rfl | exact Or.inr rfl | (unfold bz; split <;> simp)) dX11_text_84 ?_
        refine V_al0n dX11_text_87 ?_
        refine V_getR kk0 (by decide) fl_X11_55 (fx_0_8 hρ) dX11_text_88 ?_
        refine V_iconst dX11_text_91 ?_
        refine V_putZ kk62 (by decide) fl_X11_122 rfl (by first | exact Or.inl rfl | exact Or.inr rfl | (unfold bz; split <;> simp)) dX11_text_92 ?_
        refine V_al0n dX11_text_95 ?_
        refine V_getR kk0 (by decide) fl_X11_55 (fx_0_8 hρ) dX11_text_96 ?_
        refine V_al0n dX11_text_99 ?_
        refine V_getR kk0 (by decide) fl_X11_29 h03 dX11_text_100 ?_
        refine V_getI (kb_0 hb) (kl_0 hb) fl_X11_125 (u2_n (by omega) (u2_n (by omega) (u2_n (by omega) e3))) dX11_text_103 ?_
        refine V_iconst dX11_text_106 ?_
        refine V_icmp_ne (tgt := 114) dX11_text_107 rfl (by unfold ri; omega) (by unfold ri; omega) (fun b107 => ?_) (fun b107 => ?_)
        · exfalso; omega
        · refine V_lconst (a := 0) dX11_text_110 rfl ?_
          refine V_goto (tgt := 122) dX11_text_111 rfl ?_
          refine V_putJ kk62 (by decide) fl_X11_128 rfl dX11_text_122 ?_
          refine V_al0n dX11_text_125 ?_
          refine V_iconst dX11_text_126 ?_
          refine V_putI kk0 (by decide) fl_X11_63 rfl dX11_text_127 ?_
          refine V_al0n dX11_text_130 ?_
          refine V_iconst dX11_text_131 ?_
          refine V_putZ kk0 (by decide) fl_X11_69 rfl (by first | exact Or.inl rfl | exact Or.inr rfl | (unfold bz; split <;> simp)) dX11_text_132 ?_
          refine V_al0n dX11_text_135 ?_
          refine V_getR kk0 (by decide) fl_X11_100 (fx_0_18 hρ) dX11_text_136 ?_
          refine V_callV (as := []) ml_X11_132 im_X5_clear se_X5_clear kk73 (by decide) (by decide) dX11_text_139 rfl rfl (by decide) (by decide) (Nat.le_of_ble_eq_true rfl) (by decide) (by decide) rfl (c_spclear) ?_
          refine pq4 ?_
          refine V_al0n dX11_text_142 ?_
          refine V_getR kk0 (by decide) fl_X11_93 (fx_0_17 hρ) dX11_text_143 ?_
          refine V_callV (as := []) ml_X11_135 im_X8_forget se_X8_forget kk72 (by decide) (by decide) dX11_text_146 rfl rfl (by decide) (by decide) (Nat.le_of_ble_eq_true rfl) (by decide) (by decide) rfl (c_forget) ?_
          refine pq4 ?_
          refine V_al0n dX11_text_149 ?_
          refine V_getR kk0 (by decide) fl_X11_48 (fx_0_7 hρ) dX11_text_150 ?_
          refine V_al0n dX11_text_153 ?_
          refine V_getR kk0 (by decide) fl_X11_29 h03 dX11_text_154 ?_
          refine V_callV (as := [_]) ml_X11_138 im_X0_lay se_X0_lay kk55 (by decide) (by decide) dX11_text_157 rfl rfl (by decide) (by decide) (Nat.le_of_ble_eq_true rfl) (by decide) (by decide) rfl (hlay L _) ?_
          refine pq4 ?_
          refine V_al0n dX11_text_160 ?_
          refine V_getR kk0 (by decide) fl_X11_29 (u2_n (by decide) h03) dX11_text_161 ?_
          refine V_getI (kb_0 hb) (kl_0 hb) fl_X11_141 (h4L _) dX11_text_164 ?_
          exact V_ireturn rfl hQ dX11_text_167
      · exfalso; omega
    · have := hb
      refine V_al0n dX11_text_55 ?_
      refine V_al0n dX11_text_56 ?_
      refine V_getR kk0 (by decide) fl_X11_29 h03 dX11_text_57 ?_
      refine V_getI (kb_0 hb) (kl_0 hb) fl_X11_119 e2 dX11_text_60 ?_
      refine V_iconst dX11_text_63 ?_
      refine V_icmp_ne (tgt := 72) dX11_text_64 rfl (by unfold ri; omega) (by unfold ri; omega) (fun b64 => ?_) (fun b64 => ?_)
      · refine V_al0n dX11_text_72 ?_
        refine V_getR kk0 (by decide) fl_X11_29 h03 dX11_text_73 ?_
        refine V_getI (kb_0 hb) (kl_0 hb) fl_X11_119 e2 dX11_text_76 ?_
        refine V_putI kk0 (by decide) fl_X11_36 rfl dX11_text_79 ?_
        refine V_al0n dX11_text_82 ?_
        refine V_iconst dX11_text_83 ?_
        refine V_putZ kk0 (by decide) fl_X11_39 rfl (by first | exact Or.inl rfl | exact Or.inr rfl | (unfold bz; split <;> simp)) dX11_text_84 ?_
        refine V_al0n dX11_text_87 ?_
        refine V_getR kk0 (by decide) fl_X11_55 (fx_0_8 hρ) dX11_text_88 ?_
        refine V_iconst dX11_text_91 ?_
        refine V_putZ kk62 (by decide) fl_X11_122 rfl (by first | exact Or.inl rfl | exact Or.inr rfl | (unfold bz; split <;> simp)) dX11_text_92 ?_
        refine V_al0n dX11_text_95 ?_
        refine V_getR kk0 (by decide) fl_X11_55 (fx_0_8 hρ) dX11_text_96 ?_
        refine V_al0n dX11_text_99 ?_
        refine V_getR kk0 (by decide) fl_X11_29 h03 dX11_text_100 ?_
        refine V_getI (kb_0 hb) (kl_0 hb) fl_X11_125 (u2_n (by omega) (u2_n (by omega) (u2_n (by omega) e3))) dX11_text_103 ?_
        refine V_iconst dX11_text_106 ?_
        refine V_icmp_ne (tgt := 114) dX11_text_107 rfl (by unfold ri; omega) (by unfold ri; omega) (fun b107 => ?_) (fun b107 => ?_)
        · refine V_al0n dX11_text_114 ?_
          refine V_getR kk0 (by decide) fl_X11_29 h03 dX11_text_115 ?_
          refine V_getI (kb_0 hb) (kl_0 hb) fl_X11_125 (u2_n (by omega) (u2_n (by omega) (u2_n (by omega) e3))) dX11_text_118 ?_
          refine V_i2l dX11_text_121 (by unfold ri; omega) ?_
          refine V_putJ kk62 (by decide) fl_X11_128 rfl dX11_text_122 ?_
          refine V_al0n dX11_text_125 ?_
          refine V_iconst dX11_text_126 ?_
          refine V_putI kk0 (by decide) fl_X11_63 rfl dX11_text_127 ?_
          refine V_al0n dX11_text_130 ?_
          refine V_iconst dX11_text_131 ?_
          refine V_putZ kk0 (by decide) fl_X11_69 rfl (by first | exact Or.inl rfl | exact Or.inr rfl | (unfold bz; split <;> simp)) dX11_text_132 ?_
          refine V_al0n dX11_text_135 ?_
          refine V_getR kk0 (by decide) fl_X11_100 (fx_0_18 hρ) dX11_text_136 ?_
          refine V_callV (as := []) ml_X11_132 im_X5_clear se_X5_clear kk73 (by decide) (by decide) dX11_text_139 rfl rfl (by decide) (by decide) (Nat.le_of_ble_eq_true rfl) (by decide) (by decide) rfl (c_spclear) ?_
          refine pq4 ?_
          refine V_al0n dX11_text_142 ?_
          refine V_getR kk0 (by decide) fl_X11_93 (fx_0_17 hρ) dX11_text_143 ?_
          refine V_callV (as := []) ml_X11_135 im_X8_forget se_X8_forget kk72 (by decide) (by decide) dX11_text_146 rfl rfl (by decide) (by decide) (Nat.le_of_ble_eq_true rfl) (by decide) (by decide) rfl (c_forget) ?_
          refine pq4 ?_
          refine V_al0n dX11_text_149 ?_
          refine V_getR kk0 (by decide) fl_X11_48 (fx_0_7 hρ) dX11_text_150 ?_
          refine V_al0n dX11_text_153 ?_
          refine V_getR kk0 (by decide) fl_X11_29 h03 dX11_text_154 ?_
          refine V_callV (as := [_]) ml_X11_138 im_X0_lay se_X0_lay kk55 (by decide) (by decide) dX11_text_157 rfl rfl (by decide) (by decide) (Nat.le_of_ble_eq_true rfl) (by decide) (by decide) rfl (hlay L _) ?_
          refine pq4 ?_
          refine V_al0n dX11_text_160 ?_
          refine V_getR kk0 (by decide) fl_X11_29 (u2_n (by decide) h03) dX11_text_161 ?_
          refine V_getI (kb_0 hb) (kl_0 hb) fl_X11_141 (h4L _) dX11_text_164 ?_
          exact V_ireturn rfl hQ dX11_text_167
        · exfalso; omega
      · exfalso; omega
/-- a text that isn't read at all -/
theorem ICl.n2 {φ : IT} {γ : JT} (h : ICl T b ρ f g φ γ) : ICl T b ρ f g (u2 φ 104 2 0) γ := h.mv (fun _ _ _ => rfl) (fun _ _ _ => rfl) (fun a k z1 z3 z2 => u2_o (fun z => by rw [z.1, z.2] at z2; cases z2)) (fun _ _ _ _ _ => rfl)
theorem IRf.n2 {φ : IT} (h : IRf T φ) : IRf T (u2 φ 104 2 0) := h.mv (fun a k z1 z2 z3 z4 => u2_o (by omega))
/-- a text with a fault -/
theorem ICl.bad {φ R : IT} {γ : JT} {f' : IT} (h : ICl T o ρ f g φ γ) (hob : b = 35 - o) (e : ∀ a k, a ≠ 2 → a ≠ 3 → a ≠ 4 → ¬ (b ≤ a ∧ a ≤ b + 24 ∧ ¬ (b + 2 ≤ a ∧ a ≤ b + 14 ∧ (a - b) % 3 = 2 ∧ k ≤ 1)) → ¬ (a = 0 ∧ k = 1) → f' a k = f a k) (h01 : f' 0 1 = 0) (hF : FLm f' R) (h1 : R 104 1 = 0) (p : ∀ a k, ¬ PX a k → ¬ (a = 104 ∧ (k = 1 ∨ k = 2 ∨ k = 6)) → R a k = φ a k) : ICl T o ρ f' g R γ := by
  obtain ⟨i1, i2, i3, ⟨fl, ra, i4⟩, i5, i6, i7, i8, i9, i10, i11, i12⟩ := h
  have hb := i1.2.1
  have E : ∀ a k, 55 ≤ a → f' a k = f a k := fun a k z => e a k (by omega) (by omega) (by omega) (by omega) (by omega)
  have P : ∀ a k, 135 ≤ a → R a k = φ a k := fun a k z => p a k (by unfold PX; omega) (by omega)
  have P4 : ∀ k, 65 ≤ k → R 104 k = φ 104 k := fun k z => p 104 k (by unfold PX; omega) (by omega)
  have ag : AG 0 f f' := AG.sm (fun k => E _ _ (by omega))
  have p142 : R 142 = φ 142 := funext fun k => P _ _ (by omega)
  refine ⟨i1, ⟨i2.1, fun i hi => ?_⟩, i3.cg hb (fun a k _ _ => e a k (by omega) (by omega) (by omega) (by omega) (by omega)), ⟨fl, ra, i4.cg (fun a k _ _ => E a k (by omega)) rfl⟩, i5.ag ag (fun k => E _ _ (by omega)) ⟨rfl, rfl, rfl⟩ (fun _ => rfl), i6.cg (fun k => E _ _ (by omega)), (i7.cg (E _ _ (by omega)) (E _ _ (by omega)) (fun a k _ => E _ _ (by omega))).cp (P4 _ (by omega)) (P4 _ (by omega)) p142, (i8.ag ag (fun k => E _ _ (by omega)) (fun k => E _ _ (by omega))).cp (P4 _ (by omega)) (P4 _ (by omega)) p142, ?_, ⟨h01.trans h1.symm, by omega, fun k hk => by omega⟩, hF, i12⟩
  · rw [e _ 0 (by omega) (by omega) (by omega) (by omega) (by omega), e _ 1 (by omega) (by omega) (by omega) (by omega) (by omega)]; exact i2.2 i hi
  · refine (i9.cg (fun a k z => ?_) (fun a k z => rfl) (fun _ => rfl)).cp (fun k z => P4 _ (by omega)) (funext fun k => P _ _ (by omega)) (funext fun k => P _ _ (by omega)) (funext fun k => P _ _ (by omega)) rfl rfl
    unfold rcC at z
    exact e a k (by omega) (by omega) (by omega) (by omega) (by omega)
theorem IRf.bad {φ R : IT} (h : IRf T φ) (hG : Good R) (h1 : R 104 1 = 0) (p : ∀ a k, ¬ PX a k → ¬ (a = 104 ∧ (k = 1 ∨ k = 2 ∨ k = 6)) → R a k = φ a k) : IRf T R := by
  refine ⟨fun a k ht => ?_, hG.txk h1⟩
  rw [p a k ?_ ?_]
  · exact h.1 a k ht
  · unfold tx at ht
    simp only [Bool.or_eq_true, Bool.and_eq_true, decide_eq_true_eq] at ht
    unfold PX
    rcases ht with ht | ht
    · omega
    · unfold half at ht
      (repeat' split at ht) <;> omega
  · intro z
    rw [z.1] at ht
    rcases z.2 with q | q | q <;> (rw [q] at ht; cases ht)
/-- a text read whole -/
theorem ICl.new {φ R : IT} {γ : JT} {f1 : IT} {fl ra : Bool} (h : ICl T o ρ f g φ γ) (hob : b = 35 - o) (h5 : f 55 5 < 1000000) (hfl : f 55 4 = bz fl) (hra : f 55 3 = bz ra) (e : ∀ a k, a ≠ 2 → a ≠ 3 → a ≠ 4 → ¬ (b ≤ a ∧ a ≤ b + 24 ∧ ¬ (b + 2 ≤ a ∧ a ≤ b + 14 ∧ (a - b) % 3 = 2 ∧ k ≤ 1)) → ¬ (a = 0 ∧ k = 1) → f1 a k = f a k) (h01 : f1 0 1 = 0) (hF : FLm f1 R) (h1 : R 104 1 = 0) (hC : CT (rdT R) b f1) (hG : Good R) (hD : RD R) :
    ICl (rdT R) b (u2 (u2 (u2 ρ 0 3 (some b)) 0 4 (some o)) 55 0 (some b)) (txL (rdT R) fl ra (R 104 26) f1) (u2 g 62 14 (R 104 27)) (kpF R) (kpG R γ) := by
  obtain ⟨i1, i2, i3, ⟨fl0, ra0, i4⟩, i5, i6, i7, i8, i9, i10, i11, i12⟩ := h
  have hbo := i1.2.1
  have hb : b = 5 ∨ b = 30 := by omega
  obtain ⟨t1, t2, t3⟩ := rdT_ok hG hD
  have E : ∀ a k, 55 ≤ a → f1 a k = f a k := fun a k z => e a k (by omega) (by omega) (by omega) (by omega) (by omega)
  obtain ⟨v67, v68, v78, v82, v90, v91, v97⟩ := kpF_v (φ := R)
  have d7 := hD.2.2.2.2.2.2.1
  have d8 := hD.2.2.2.2.2.2.2
  have F55 : ∀ k, k ≠ 5 → txL (rdT R) fl ra (R 104 26) f1 55 k = f 55 k := fun k z => by rw [txL_e (by omega) (by omega), txE_o (by omega) (by omega) (by omega) (by omega), E _ _ (by omega)]
  have F5 : txL (rdT R) fl ra (R 104 26) f1 55 5 = f 55 5 + 1 := by unfold txL; rw [u2_s, txE_o (by omega) (by omega) (by omega) (by omega), E _ _ (by omega)]
  have O : ∀ a k, ¬ (a = 0 ∧ 5 ≤ k) → ¬ (55 ≤ a ∧ a ≤ 59) → a ≠ 62 → a ≠ 72 → ¬ (a = 73 ∧ (k = 4 ∨ k = 5 ∨ k = 9)) → txL (rdT R) fl ra (R 104 26) f1 a k = f1 a k := fun a k z1 z2 z3 z4 z5 => txL_o z1 z2 z3 z4 z5
  have OE : ∀ a k, ¬ (55 ≤ a ∧ a ≤ 59) → txL (rdT R) fl ra (R 104 26) f1 a k = txE (R 104 26) f1 a k := fun a k z => txL_e (by omega) (by omega)
  have x05 : txL (rdT R) fl ra (R 104 26) f1 0 5 = R 104 26 := by rw [OE _ _ (by omega)]; unfold txE; rw [u2_o (by omega), u2_o (by omega), u2_o (by omega), u2_o (by omega), u2_o (by omega), u2_o (by omega), u2_o (by omega), u2_o (by omega), u2_s]
  have x06 : txL (rdT R) fl ra (R 104 26) f1 0 6 = 0 := by rw [OE _ _ (by omega)]; unfold txE; rw [u2_o (by omega), u2_o (by omega), u2_o (by omega), u2_o (by omega), u2_o (by omega), u2_o (by omega), u2_o (by omega), u2_s]
  have x62 : txL (rdT R) fl ra (R 104 26) f1 62 0 = 0 := by rw [OE _ _ (by omega)]; unfold txE; rw [u2_o (by omega), u2_o (by omega), u2_o (by omega), u2_o (by omega), u2_o (by omega), u2_o (by omega), u2_s]
  have x10 : txL (rdT R) fl ra (R 104 26) f1 0 10 = 0 := by rw [OE _ _ (by omega)]; unfold txE; rw [u2_o (by omega), u2_o (by omega), u2_o (by omega), u2_o (by omega), u2_o (by omega), u2_s]
  have x12 : txL (rdT R) fl ra (R 104 26) f1 0 12 = 0 := by rw [OE _ _ (by omega)]; unfold txE; rw [u2_o (by omega), u2_o (by omega), u2_o (by omega), u2_o (by omega), u2_s]
  have x734 : txL (rdT R) fl ra (R 104 26) f1 73 4 = 0 := by rw [OE _ _ (by omega)]; unfold txE; rw [u2_o (by omega), u2_o (by omega), u2_o (by omega), u2_s]
  have x735 : txL (rdT R) fl ra (R 104 26) f1 73 5 = -1 := by rw [OE _ _ (by omega)]; unfold txE; rw [u2_o (by omega), u2_o (by omega), u2_s]
  have x739 : txL (rdT R) fl ra (R 104 26) f1 73 9 = -1 := by rw [OE _ _ (by omega)]; unfold txE; rw [u2_o (by omega), u2_s]
  have x72 : txL (rdT R) fl ra (R 104 26) f1 72 0 = -1 := by rw [OE _ _ (by omega)]; unfold txE; rw [u2_s]
  have x72k : ∀ k, k ≠ 0 → txL (rdT R) fl ra (R 104 26) f1 72 k = f 72 k := fun k z => by
    rw [OE _ _ (by omega)]; unfold txE
    rw [u2_o (by omega), u2_o (by omega), u2_o (by omega), u2_o (by omega), u2_o (by omega), u2_o (by omega), u2_o (by omega), u2_o (by omega), u2_o (by omega)]
    exact E _ _ (by omega)
  have hGI : GI (rdT R) fl ra (txL (rdT R) fl ra (R 104 26) f1) (u2 g 62 14 (R 104 27)) := by
    have q := fun k => (txE_o (f := f1) (L := R 104 26) (a := 55) (k := k) (by omega) (by omega) (by omega) (by omega)).trans (E 55 k (by omega))
    obtain ⟨-, -, j1, j2, j5, -, j7⟩ := i4
    exact GI.anew t1 (fun s hs => by rw [u2_o (by omega), q]; exact (j7 s hs).1) ((q 4).trans hfl) ((q 3).trans hra) (by rw [q]; exact j1) (by rw [q]; exact j2) (by rw [q]; omega)
  generalize txL (rdT R) fl ra (R 104 26) f1 = F at *
  have R1 : ∀ a k, ¬ (a = 0 ∧ (k = 3 ∨ k = 4)) → ¬ (a = 55 ∧ k = 0) → u2 (u2 (u2 ρ 0 3 (some b)) 0 4 (some o)) 55 0 (some b) a k = ρ a k := fun a k z1 z2 => by rw [u2_o (by omega), u2_o (by omega), u2_o (by omega)]
  refine ⟨⟨i1.1.cg (fun a k z1 z2 z3 z4 => R1 a k z4 z3), hb, by rw [u2_o (by omega), u2_o (by omega), u2_s], u2_s, t1, t2⟩, ⟨by rw [u2_o (by omega), u2_s]; congr 1; omega, fun i hi => ?_⟩, hC.cg hb (fun a k _ _ => O a k (by omega) (by omega) (by omega) (by omega) (by omega)), ⟨fl, ra, hGI⟩, ?_, ?_, ?_, SpI.no x739 ?_, ?_, ?_, ?_, t3⟩
  · have q := (i3.1 i hi).2
    rw [show 35 - b + 2 + 3 * i = o + 2 + 3 * i by omega, O _ 0 (by omega) (by omega) (by omega) (by omega) (by omega), O _ 1 (by omega) (by omega) (by omega) (by omega) (by omega), e _ 0 (by omega) (by omega) (by omega) (by omega) (by omega), e _ 1 (by omega) (by omega) (by omega) (by omega) (by omega)]
    exact q
  · obtain ⟨⟨wA, wB, rA, rB, ⟨s2, s3, s4, s5⟩, sw⟩, hz, j7, j8, j9, j10, j11, j12, -⟩ := i5
    have q : ∀ k, F 66 k = f 66 k := fun k => (O _ _ (by omega) (by omega) (by omega) (by omega) (by omega)).trans (E _ _ (by omega))
    unfold SrI
    rw [q 7, q 8, q 9, q 10, q 11, F5, u2_o (show ¬ ((66 : Nat) = 62 ∧ 12 = 14) by omega)]
    refine ⟨⟨wA, wB, rA, rB, ⟨(R1 _ _ (by omega) (by omega)).trans s2, (R1 _ _ (by omega) (by omega)).trans s3, (R1 _ _ (by omega) (by omega)).trans s4, (R1 _ _ (by omega) (by omega)).trans s5⟩, sw⟩, fun j hj => ?_, j7, by omega, j9, j10, j11, j12, fun z => by exfalso; omega⟩
    rw [u2_o (by omega), u2_o (by omega)]; exact hz j hj
  · unfold TrI
    rw [x72, x72k 1 (by omega), x72k 2 (by omega)]
    exact ⟨by unfold ri; omega, i6.2.1, i6.2.2.1, fun n z => by exfalso; omega⟩
  · refine ⟨⟨by rw [v90]; omega, by rw [v90, v91]; omega, fun i hi => by rw [v90] at hi; exfalso; omega⟩, x734.trans v90.symm, x735.trans v91.symm, fun i hi => by rw [v90] at hi; exfalso; omega⟩
  · rw [O _ _ (by omega) (by omega) (by omega) (by omega) (by omega), E _ _ (by omega), F5]
    have := i8.2.1
    omega
  · have gS : u2 g 62 14 (R 104 27) 62 14 = R 104 27 := u2_s
    have kS : kpG R γ 104 69 = R 104 27 := by unfold kpG; rw [u2_s]
    unfold RSm
    rw [v67, v68, v78, v82, v97, kS]
    refine ⟨⟨x62, gS, Or.inl rfl, by omega, fun z => by exfalso; omega⟩, ⟨x10, by omega, fun z => by exfalso; omega⟩, ⟨fun i hi => ?_, fun i j a hi hj h1 h2 => ?_⟩, fun u hu => by exfalso; omega, ⟨x12, Or.inl rfl⟩, fun z => by exfalso; omega, ⟨x05, d7⟩, ⟨x06, Or.inl rfl⟩⟩
    · obtain ⟨a, q1, q2⟩ := i9.2.2.1.1 i hi
      exact ⟨a, (R1 _ _ (by omega) (by omega)).trans q1, q2⟩
    · exact i9.2.2.1.2 i j a hi hj ((R1 _ _ (by omega) (by omega)).symm.trans h1) ((R1 _ _ (by omega) (by omega)).symm.trans h2)
  · have k1 : kpF R 104 1 = 0 := (kpF_o (by omega) (by omega)).trans h1
    refine ⟨?_, by omega, fun k hk => by exfalso; omega⟩
    rw [k1, O _ _ (by omega) (by omega) (by omega) (by omega) (by omega)]; exact h01
  · exact hF.cg (O _ _ (by omega) (by omega) (by omega) (by omega) (by omega)) (O _ _ (by omega) (by omega) (by omega) (by omega) (by omega)) (kpF_o (by omega) (by omega)) (kpF_o (by omega) (by omega))
def TXQ (n : Int) (φ : IT) (γ : JT) (f : IT) (g : JT) (ρ' : RT) (f' : IT) (g' : JT) : Prop := (∃ (T' : TT) (b' : Nat), ICl T' b' ρ' f' g' (txF n φ) (txG n φ γ) ∧ IRf T' (txF n φ)) ∧ f' 55 5 ≤ f 55 5 + 1 ∧ (∀ a k, 104 ≤ a → f' a k = f a k) ∧ (∀ a k, 104 ≤ a → g' a k = g a k)
theorem c_text {φ : IT} {γ : JT} (h : ICl T o ρ f g φ γ) (hX : IRf T φ) (h5 : f 55 5 < 1000000) {n : Int} (rn_ : ri n) : C_X11_text [.ref 0, .int (iz n)] ρ f g (fun r ρ' f' g' => r = some (.int (iz (txA n φ))) ∧ TXQ n φ γ f g ρ' f' g') := by
  have hI := h
  obtain ⟨i1, i2, i3, ⟨fl, ra, i4⟩, i5, i6, i7, i8, i9, i10, i11, i12⟩ := hI
  have hρ := i1.1
  have hbo := i1.2.1
  obtain ⟨b, hob⟩ : ∃ b, b = 35 - o := ⟨_, rfl⟩
  have hb : b = 5 ∨ b = 30 := by omega
  have h04 : ρ 0 4 = some b := by rw [hob]; exact i2.1
  have h03 := i1.2.2.1
  have htk := i10.1
  have htr := i10.2.1
  refine Ct.ofV (by decide) rfl (Nat.le_of_ble_eq_true rfl) ?_
  by_cases hx : 0 ≤ n ∧ n ≤ φ 104 1
  · have eO : txO n φ = true := by unfold txO; simpa using hx
    have hpa := c_parse (g := g) (f := u2 f 0 1 0) (b := b) hρ hb (fun i hi => by rw [u2_o (by omega), u2_o (by omega), hob]; exact i2.2 i hi) hX.2 hx (fun k hk => by rw [u2_o (by omega)]; exact i10.2.2 k (by omega))
    obtain ⟨r1, r2, r3⟩ := txR_fr hX.2 hx
    have eA : txA n φ = (match (txR n φ).1 with | none => -1 | some l => (l : Int)) := by unfold txA; rw [if_pos eO]; rfl
    have eF : txF n φ = (match (txR n φ).1 with | none => (txR n φ).2 | some _ => kpF (txR n φ).2) := by unfold txF; rw [if_pos eO]; rfl
    have eG : txG n φ γ = (match (txR n φ).1 with | none => γ | some _ => kpG (txR n φ).2 γ) := by unfold txG; rw [if_pos eO]; rfl
    generalize hR : txR n φ = R at *
    obtain ⟨R1, R2⟩ := R
    simp only at r1 r2 r3 eA eF eG
    refine V_il1n dX11_text_0 ?_
    refine V_if_lt (tgt := 12) dX11_text_1 rfl (by exact rn_) (fun b1 => ?_) (fun b1 => ?_)
    · exfalso; omega
    · refine V_il1n dX11_text_4 ?_
      refine V_al0n dX11_text_5 ?_
      refine V_getI kk0 (by decide) fl_X11_13 htk dX11_text_6 ?_
      refine V_icmp_le (tgt := 15) dX11_text_9 rfl (by exact rn_) (by unfold ri; omega) (fun b9 => ?_) (fun b9 => ?_)
      · refine V_al0n dX11_text_15 ?_
        refine V_iconst dX11_text_16 ?_
        refine V_putI kk0 (by decide) fl_X11_13 rfl dX11_text_17 ?_
        refine V_al0n dX11_text_20 ?_
        refine V_getR kk0 (by decide) fl_X11_22 (fx_0_2 hρ) dX11_text_21 ?_
        refine V_al0n dX11_text_24 ?_
        refine V_getR kk0 (by decide) fl_X11_33 h04 dX11_text_25 ?_
        refine V_il1n dX11_text_28 ?_
        refine V_callV (as := [_, _]) ml_X11_115 im_X2_parse se_X2_parse kk2 (by decide) (by decide) dX11_text_29 rfl rfl (by decide) (by decide) (Nat.le_of_ble_eq_true rfl) (by decide) (by decide) rfl (hpa) ?_
        rintro r29 ρ29 f29 g29 ⟨rfl, s29_0, y1, s29_1⟩
        obtain rfl := s29_0.symm
        obtain rfl := s29_1.symm
        refine V_bf (tgt := 37) dX11_text_32 rfl (fun b32 => ?_) (fun b32 => ?_)
        · refine V_al0n dX11_text_37 ?_
          refine V_getR kk0 (by decide) fl_X11_29 h03 dX11_text_38 ?_
          refine V_as2n dX11_text_41 (by decide) rfl ?_
          refine V_al0n dX11_text_42 ?_
          refine V_al0n dX11_text_43 ?_
          refine V_getR kk0 (by decide) fl_X11_33 h04 dX11_text_44 ?_
          refine V_putR kk0 (by decide) fl_X11_29 rfl dX11_text_47 ?_
          refine V_al0n dX11_text_50 ?_
          refine V_al2n dX11_text_51 ?_
          refine V_putR kk0 (by decide) fl_X11_33 rfl dX11_text_52 ?_
          obtain ⟨p1, p2, p3⟩ := y1
          cases R1 with
          | none => cases b32
          | some l =>
            obtain ⟨c1, c2, c3, c4, c5, c6⟩ := p3 l rfl
            simp only at c1 c2 c5 c6 p2
            have e' : ∀ a k, a ≠ 2 → a ≠ 3 → a ≠ 4 → ¬ (b ≤ a ∧ a ≤ b + 24 ∧ ¬ (b + 2 ≤ a ∧ a ≤ b + 14 ∧ (a - b) % 3 = 2 ∧ k ≤ 1)) → ¬ (a = 0 ∧ k = 1) → f29 a k = f a k := fun a k z1 z2 z3 z4 z5 => (p1 a k z1 z2 z3 z4).trans (u2_o z5)
            have h01 : f29 0 1 = 0 := (p1 0 1 (by omega) (by omega) (by omega) (by omega)).trans u2_s
            have E : ∀ a k, 55 ≤ a → f29 a k = f a k := fun a k z => e' a k (by omega) (by omega) (by omega) (by omega) (by omega)
            have d7 := c6.2.2.2.2.2.2.1
            have d8 := c6.2.2.2.2.2.2.2
            have hL : (f29 b 2 = -1 ∧ R2 104 26 = 8) ∨ (f29 b 2 = R2 104 26 ∧ 0 ≤ R2 104 26 ∧ R2 104 26 ≤ 30) := by
              by_cases z : R2 104 28 = 1
              · exact Or.inr ⟨c2.1 z, d7⟩
              · exact Or.inl (c2.2.1 z)
            have hS : (f29 b 3 = -1 ∧ R2 104 27 = 0) ∨ (f29 b 3 = R2 104 27 ∧ 0 ≤ R2 104 27 ∧ R2 104 27 ≤ 99999) := by
              by_cases z : R2 104 29 = 1
              · exact Or.inr ⟨c2.2.2.1 z, d8⟩
              · exact Or.inl (c2.2.2.2 z)
            have hρ1 : Fx (u2 (u2 ρ 0 3 (some b)) 0 4 (some o)) := hρ.cg (fun a k z1 z2 z3 z4 => by rw [u2_o (by omega), u2_o (by omega)])
            refine w_text55 (T := rdT R2) hρ1 hb (by rw [u2_o (by omega), u2_s]) c1 (rdT_ok c5 c6).1 (fl := fl) (ra := ra) ((E 55 4 (by omega)).trans i4.1) ((E 55 3 (by omega)).trans i4.2.1) hL hS c3 ⟨by rw [eA], ⟨rdT R2, b, ?_, ?_⟩, ?_, fun a k z => ?_, fun a k z => u2_o (by omega)⟩
            · rw [eF, eG]; exact h.new hob h5 i4.1 i4.2.1 e' h01 p2 r2 c1 c5 c6
            · rw [eF]; exact ⟨kpF_mt, (r1.txk r2).kp⟩
            · unfold txL; rw [u2_s, txE_o (by omega) (by omega) (by omega) (by omega), E _ _ (by omega)]; omega
            · rw [txL_o (by omega) (by omega) (by omega) (by omega) (by omega)]; exact E _ _ (by omega)
        · refine V_iconst dX11_text_35 ?_
          exact V_ireturn rfl (by
  obtain ⟨p1, p2, p3⟩ := y1
  cases R1 with
  | some l => cases b32
  | none =>
    have e' : ∀ a k, a ≠ 2 → a ≠ 3 → a ≠ 4 → ¬ (b ≤ a ∧ a ≤ b + 24 ∧ ¬ (b + 2 ≤ a ∧ a ≤ b + 14 ∧ (a - b) % 3 = 2 ∧ k ≤ 1)) → ¬ (a = 0 ∧ k = 1) → f29 a k = f a k := fun a k z1 z2 z3 z4 z5 => (p1 a k z1 z2 z3 z4).trans (u2_o z5)
    have h01 : f29 0 1 = 0 := (p1 0 1 (by omega) (by omega) (by omega) (by omega)).trans u2_s
    refine ⟨by rw [eA], ⟨T, o, ?_, ?_⟩, ?_, fun a k z => e' a k (by omega) (by omega) (by omega) (by omega) (by omega), fun _ _ _ => rfl⟩
    · rw [eF, eG]; exact h.bad hob e' h01 p2 r2 r3
    · rw [eF]; exact hX.bad r1 r2 r3
    · rw [e' 55 5 (by omega) (by omega) (by omega) (by omega) (by omega)]; omega) dX11_text_36
      · exfalso; omega
  · have eO : txO n φ = false := by unfold txO; simpa using hx
    have eA : txA n φ = -2 := by unfold txA; rw [eO]; rfl
    have eF : txF n φ = u2 φ 104 2 0 := by unfold txF; rw [eO]; rfl
    have eG : txG n φ γ = γ := by unfold txG; rw [eO]; rfl
    have fin : TXQ n φ γ f g ρ f g := ⟨⟨T, o, by rw [eF, eG]; exact h.n2, by rw [eF]; exact hX.n2⟩, by omega, fun _ _ _ => rfl, fun _ _ _ => rfl⟩
    refine V_il1n dX11_text_0 ?_
    refine V_if_lt (tgt := 12) dX11_text_1 rfl (by exact rn_) (fun b1 => ?_) (fun b1 => ?_)
    · refine V_bipush dX11_text_12 rfl ?_
      exact V_ireturn rfl ⟨by rw [eA], fin⟩ dX11_text_14
    · refine V_il1n dX11_text_4 ?_
      refine V_al0n dX11_text_5 ?_
      refine V_getI kk0 (by decide) fl_X11_13 htk dX11_text_6 ?_
      refine V_icmp_le (tgt := 15) dX11_text_9 rfl (by exact rn_) (by unfold ri; omega) (fun b9 => ?_) (fun b9 => ?_)
      · exfalso; omega
      · refine V_bipush dX11_text_12 rfl ?_
        exact V_ireturn rfl ⟨by rw [eA], fin⟩ dX11_text_14
end CTEXT

