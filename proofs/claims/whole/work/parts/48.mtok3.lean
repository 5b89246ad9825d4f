theorem u2_4 {α : Type} {f : Nat → Nat → α} {a k j : Nat} {x x' y y' : α} (h : k ≠ j) : u2 (u2 (u2 (u2 f a k x) a j y) a k x') a j y' = u2 (u2 f a k x') a j y' := by
  rw [u2_cm (f := u2 f a k x) (a := a) (k := j) (b := a) (j := k) (fun q => h q.2.symm), u2_u2, u2_u2]
def numV (tp : Nat → Int) : Nat → Nat → Int → Int
  | 0, _, v => v
  | n + 1, p, v => if isG (tp p) = true then numV tp n (p + 1) (if 99999 < v then v else 10 * v + tp p - 48) else v
def tokA (tp : Nat → Int) (s p : Nat) : Nat := run1 isW tp (s - p) p
def wrdT (tp : Nat → Int) (a b : Nat) : T4 := (a, b, if 0 ≤ wIdx tp a b then 1 else if 6 < b - a then 6 else 2, if 0 ≤ wIdx tp a b then wIdx tp a b else if 6 < b - a then -1 else pkd tp a b)
/-- the token from a place on: at, next, kind, which -/
def tokT (tp : Nat → Int) (s p : Nat) (w0 : Int) : T4 :=
  if tokA tp s p = s then (s, s, 0, w0)
  else if isL (tp (tokA tp s p)) = true then wrdT tp (tokA tp s p) (run1 isL tp (s - tokA tp s p) (tokA tp s p))
  else if isG (tp (tokA tp s p)) = true then (tokA tp s p, run1 isG tp (s - tokA tp s p) (tokA tp s p), 3, numV tp (s - tokA tp s p) (tokA tp s p) 0)
  else sgnT tp s (tokA tp s p)
def st4 (f : IT) (t : T4) : IT := u2 (u2 (u2 (u2 f 104 10 (t.1 : Int)) 104 7 (t.2.1 : Int)) 104 8 t.2.2.1) 104 9 t.2.2.2
def tkF (f : IT) : IT := st4 f (tokT (f 105) (f 104 6).toNat (f 104 7).toNat (f 104 9))
theorem st4_ext {f F : IT} {t : T4} (h1 : ∀ b j, ¬ (b = 104 ∧ 7 ≤ j ∧ j ≤ 10) → F b j = f b j) (h2 : F 104 10 = (t.1 : Int)) (h3 : F 104 7 = (t.2.1 : Int)) (h4 : F 104 8 = t.2.2.1) (h5 : F 104 9 = t.2.2.2) : F = st4 f t := by
  funext b j
  unfold st4
  by_cases q : b = 104 ∧ 7 ≤ j ∧ j ≤ 10
  · obtain ⟨rfl, q1, q2⟩ := q
    rcases (show j = 7 ∨ j = 8 ∨ j = 9 ∨ j = 10 by omega) with rfl | rfl | rfl | rfl
    · rw [u2_o (by omega), u2_o (by omega), u2_s]; exact h3
    · rw [u2_o (by omega), u2_s]; exact h4
    · rw [u2_s]; exact h5
    · rw [u2_o (by omega), u2_o (by omega), u2_o (by omega), u2_s]; exact h2
  · rw [h1 b j q, u2_o (by omega), u2_o (by omega), u2_o (by omega), u2_o (by omega)]
section TOKEN
variable {Q : QT} {ρ : RT} {f : IT} {g : JT} {s : Nat}
theorem w_tk0 (hρ : Fx ρ) (hs : f 104 6 = (s : Int)) (hs7 : s ≤ 700) (ht : ∀ k, k < 700 → 0 ≤ f 105 k ∧ f 105 k ≤ 255) {a : Nat} (hX : V_X12_token Q 52 [.ref 104] [] ρ (u2 f 104 7 (a : Int)) g) (q : Nat) (hq : q ≤ s) (ha : run1 isW (f 105) (s - q) q = a) :
    V_X12_token Q 0 [.ref 104] [] ρ (u2 f 104 7 (q : Int)) g := by
  by_cases e : q = s
  · subst e
    rw [Nat.sub_self] at ha
    simp only [run1] at ha
    subst ha
    refine V_al0n dX12_token_0 ?_
    refine V_getI kk104 (by decide) fl_X12_169 u2_s dX12_token_1 ?_
    refine V_al0n dX12_token_4 ?_
    refine V_getI kk104 (by decide) fl_X12_166 (u2_n (by decide) hs) dX12_token_5 ?_
    refine V_icmp_ge (tgt := 52) dX12_token_8 rfl (by first | assumption | (unfold ri at *; omega)) (by first | assumption | (unfold ri at *; omega)) (fun b8 => ?_) (fun b8 => ?_)
    · exact hX
    · exfalso; omega
  · rw [show s - q = (s - (q + 1)) + 1 by omega, run1] at ha
    have hb := ht q (by omega)
    refine V_al0n dX12_token_0 ?_
    refine V_getI kk104 (by decide) fl_X12_169 u2_s dX12_token_1 ?_
    refine V_al0n dX12_token_4 ?_
    refine V_getI kk104 (by decide) fl_X12_166 (u2_n (by decide) hs) dX12_token_5 ?_
    refine V_icmp_ge (tgt := 52) dX12_token_8 rfl (by first | assumption | (unfold ri at *; omega)) (by first | assumption | (unfold ri at *; omega)) (fun b8 => ?_) (fun b8 => ?_)
    · exfalso; omega
    · refine V_al0n dX12_token_11 ?_
      refine V_getR kk104 (by decide) fl_X12_7 (fx_104_0 hρ) dX12_token_12 ?_
      refine V_al0n dX12_token_15 ?_
      refine V_getI kk104 (by decide) fl_X12_169 u2_s dX12_token_16 ?_
      refine V_iald (k := q) kk105 (by decide) (by first | rfl | omega) (by omega) (by first | decide | assumption | omega) (u2_n (by omega) rfl) dX12_token_19 ?_
      refine V_bipush dX12_token_20 rfl ?_
      refine V_icmp_eq (tgt := 39) dX12_token_22 rfl (by first | assumption | (unfold ri at *; omega)) (by first | assumption | (unfold ri at *; omega)) (fun b22 => ?_) (fun b22 => ?_)
      · refine V_al0n dX12_token_39 ?_
        refine V_dup dX12_token_40 rfl ?_
        refine V_getI kk104 (by decide) fl_X12_169 u2_s dX12_token_41 ?_
        refine V_iconst dX12_token_44 ?_
        refine V_iadd dX12_token_45 ?_
        refine V_putI kk104 (by decide) fl_X12_169 rfl dX12_token_46 ?_
        refine V_goto (tgt := 0) dX12_token_49 rfl ?_
        rw [if_pos (by unfold isW; simp only [decide_eq_true_eq]; omega)] at ha; rw [u2_u2]; exact w_tk0 hρ hs hs7 ht hX (q + 1) (by omega) ha
      · refine V_al0n dX12_token_25 ?_
        refine V_getR kk104 (by decide) fl_X12_7 (fx_104_0 hρ) dX12_token_26 ?_
        refine V_al0n dX12_token_29 ?_
        refine V_getI kk104 (by decide) fl_X12_169 u2_s dX12_token_30 ?_
        refine V_iald (k := q) kk105 (by decide) (by first | rfl | omega) (by omega) (by first | decide | assumption | omega) (u2_n (by omega) rfl) dX12_token_33 ?_
        refine V_bipush dX12_token_34 rfl ?_
        refine V_icmp_ne (tgt := 52) dX12_token_36 rfl (by first | assumption | (unfold ri at *; omega)) (by first | assumption | (unfold ri at *; omega)) (fun b36 => ?_) (fun b36 => ?_)
        · rw [if_neg (by unfold isW; simp only [decide_eq_true_eq]; omega)] at ha; subst ha; exact hX
        · refine V_al0n dX12_token_39 ?_
          refine V_dup dX12_token_40 rfl ?_
          refine V_getI kk104 (by decide) fl_X12_169 u2_s dX12_token_41 ?_
          refine V_iconst dX12_token_44 ?_
          refine V_iadd dX12_token_45 ?_
          refine V_putI kk104 (by decide) fl_X12_169 rfl dX12_token_46 ?_
          refine V_goto (tgt := 0) dX12_token_49 rfl ?_
          rw [if_pos (by unfold isW; simp only [decide_eq_true_eq]; omega)] at ha; rw [u2_u2]; exact w_tk0 hρ hs hs7 ht hX (q + 1) (by omega) ha
termination_by s - q
theorem w_tk90 (hρ : Fx ρ) (hs : f 104 6 = (s : Int)) (hs7 : s ≤ 700) (ht : ∀ k, k < 700 → 0 ≤ f 105 k ∧ f 105 k ≤ 255) {b : Nat} (hX : V_X12_token Q 114 [.ref 104] [] ρ (u2 f 104 7 (b : Int)) g) (q : Nat) (hq : q ≤ s) (hb : run1 isL (f 105) (s - q) q = b) :
    V_X12_token Q 90 [.ref 104] [] ρ (u2 f 104 7 (q : Int)) g := by
  have hc := c_isSmall (f := u2 f 104 7 (q : Int)) (g := g) hρ (p := q) (s := s) (u2_n (by omega) hs) hs7 hq (fun k hk => by rw [u2_o (by omega)]; exact ht k hk)
  rw [u2_o (by omega)] at hc
  by_cases e : q = s
  · subst e
    rw [Nat.sub_self] at hb
    simp only [run1] at hb
    subst hb
    refine V_al0n dX12_token_90 ?_
    refine V_al0n dX12_token_91 ?_
    refine V_getI kk104 (by decide) fl_X12_169 u2_s dX12_token_92 ?_
    refine V_callV (as := [_]) ml_X12_175 im_X12_isSmall se_X12_isSmall kk104 (by decide) (by decide) dX12_token_95 rfl rfl (by decide) (by decide) (Nat.le_of_ble_eq_true rfl) (by decide) (by decide) rfl (hc) ?_
    refine pq4 ?_
    refine V_bt (tgt := 114) dX12_token_98 rfl (fun b98 => ?_) (fun b98 => ?_)
    · exact hX
    · simp at b98
  · rw [show s - q = (s - (q + 1)) + 1 by omega, run1] at hb
    refine V_al0n dX12_token_90 ?_
    refine V_al0n dX12_token_91 ?_
    refine V_getI kk104 (by decide) fl_X12_169 u2_s dX12_token_92 ?_
    refine V_callV (as := [_]) ml_X12_175 im_X12_isSmall se_X12_isSmall kk104 (by decide) (by decide) dX12_token_95 rfl rfl (by decide) (by decide) (Nat.le_of_ble_eq_true rfl) (by decide) (by decide) rfl (hc) ?_
    refine pq4 ?_
    refine V_bt (tgt := 114) dX12_token_98 rfl (fun b98 => ?_) (fun b98 => ?_)
    · rw [if_neg (by intro h; rw [h] at b98; simp at b98; omega)] at hb; subst hb; exact hX
    · refine V_al0n dX12_token_101 ?_
      refine V_dup dX12_token_102 rfl ?_
      refine V_getI kk104 (by decide) fl_X12_169 u2_s dX12_token_103 ?_
      refine V_iconst dX12_token_106 ?_
      refine V_iadd dX12_token_107 ?_
      refine V_putI kk104 (by decide) fl_X12_169 rfl dX12_token_108 ?_
      refine V_goto (tgt := 90) dX12_token_111 rfl ?_
      rw [if_pos (by simp at b98; exact b98.2)] at hb; rw [u2_u2]; exact w_tk90 hρ hs hs7 ht hX (q + 1) (by omega) hb
termination_by s - q
theorem w_tk213 (hρ : Fx ρ) (hs : f 104 6 = (s : Int)) (hs7 : s ≤ 700) (ht : ∀ k, k < 700 → 0 ≤ f 105 k ∧ f 105 k ≤ 255) {b : Nat} {w : Int} (hQ : Q none ρ (u2 (u2 f 104 9 w) 104 7 (b : Int)) g) (q : Nat) (hq : q ≤ s) (v : Int) (hv : 0 ≤ v ∧ v ≤ 1000000) (hb : run1 isG (f 105) (s - q) q = b) (hw : numV (f 105) (s - q) q v = w) :
    V_X12_token Q 213 [.ref 104] [] ρ (u2 (u2 f 104 9 v) 104 7 (q : Int)) g := by
  have hc := c_isDigit (f := u2 (u2 f 104 9 v) 104 7 (q : Int)) (g := g) hρ (p := q) (s := s) (u2_n (by omega) (u2_n (by omega) hs)) hs7 hq (fun k hk => by rw [u2_o (by omega), u2_o (by omega)]; exact ht k hk)
  rw [u2_o (by omega), u2_o (by omega)] at hc
  by_cases e : q = s
  · subst e
    rw [Nat.sub_self] at hb hw
    simp only [run1, numV] at hb hw
    subst hb
    subst hw
    refine V_al0n dX12_token_213 ?_
    refine V_al0n dX12_token_214 ?_
    refine V_getI kk104 (by decide) fl_X12_169 u2_s dX12_token_215 ?_
    refine V_callV (as := [_]) ml_X12_189 im_X12_isDigit se_X12_isDigit kk104 (by decide) (by decide) dX12_token_218 rfl rfl (by decide) (by decide) (Nat.le_of_ble_eq_true rfl) (by decide) (by decide) rfl (hc) ?_
    refine pq4 ?_
    refine V_bt (tgt := 281) dX12_token_221 rfl (fun b221 => ?_) (fun b221 => ?_)
    · exact V_return rfl hQ dX12_token_281
    · simp at b221
  · rw [show s - q = (s - (q + 1)) + 1 by omega, run1] at hb
    rw [show s - q = (s - (q + 1)) + 1 by omega, numV] at hw
    have h0 := ht q (by omega)
    refine V_al0n dX12_token_213 ?_
    refine V_al0n dX12_token_214 ?_
    refine V_getI kk104 (by decide) fl_X12_169 u2_s dX12_token_215 ?_
    refine V_callV (as := [_]) ml_X12_189 im_X12_isDigit se_X12_isDigit kk104 (by decide) (by decide) dX12_token_218 rfl rfl (by decide) (by decide) (Nat.le_of_ble_eq_true rfl) (by decide) (by decide) rfl (hc) ?_
    refine pq4 ?_
    refine V_bt (tgt := 281) dX12_token_221 rfl (fun b221 => ?_) (fun b221 => ?_)
    · have hg' : ¬ isG (f 105 q) = true := by intro h; rw [h] at b221; simp at b221; omega
      exact V_return rfl (by rw [if_neg hg'] at hb hw; subst hb; subst hw; exact hQ) dX12_token_281
    · have hg' : isG (f 105 q) = true := by simp at b221; exact b221.2
      have hg2 := hg'
      unfold isG at hg2
      simp only [decide_eq_true_eq] at hg2
      rw [if_pos hg'] at hb hw
      refine V_al0n dX12_token_224 ?_
      refine V_al0n dX12_token_225 ?_
      refine V_getI kk104 (by decide) fl_X12_183 (u2_n (by decide) u2_s) dX12_token_226 ?_
      refine V_ldc (a := 99999) kc_X12_192 rfl dX12_token_229 ?_
      refine V_icmp_le (tgt := 241) dX12_token_231 rfl (by first | assumption | (unfold ri at *; omega)) (by first | assumption | (unfold ri at *; omega)) (fun b231 => ?_) (fun b231 => ?_)
      · refine V_bipush dX12_token_241 rfl ?_
        refine V_al0n dX12_token_243 ?_
        refine V_getI kk104 (by decide) fl_X12_183 (u2_n (by decide) u2_s) dX12_token_244 ?_
        refine V_imul dX12_token_247 ?_
        refine V_al0n dX12_token_248 ?_
        refine V_getR kk104 (by decide) fl_X12_7 (fx_104_0 hρ) dX12_token_249 ?_
        refine V_al0n dX12_token_252 ?_
        refine V_getI kk104 (by decide) fl_X12_169 u2_s dX12_token_253 ?_
        refine V_iald (k := q) kk105 (by decide) (by first | rfl | omega) (by omega) (by first | decide | assumption | omega) (u2_n (by omega) (u2_n (by omega) rfl)) dX12_token_256 ?_
        refine V_iadd dX12_token_257 ?_
        refine V_bipush dX12_token_258 rfl ?_
        refine V_isub dX12_token_260 ?_
        refine V_putI kk104 (by decide) fl_X12_183 rfl dX12_token_261 ?_
        refine V_al0n dX12_token_264 ?_
        refine V_dup dX12_token_265 rfl ?_
        refine V_getI kk104 (by decide) fl_X12_169 (u2_n (by decide) u2_s) dX12_token_266 ?_
        refine V_iconst dX12_token_269 ?_
        refine V_iadd dX12_token_270 ?_
        refine V_putI kk104 (by decide) fl_X12_169 rfl dX12_token_271 ?_
        refine V_goto (tgt := 213) dX12_token_274 rfl ?_
        rw [if_neg (by omega)] at hw
        rw [u2_4 (by omega)]
        exact w_tk213 hρ hs hs7 ht hQ (q + 1) (by omega) _ (by omega) hb hw
      · refine V_al0n dX12_token_234 ?_
        refine V_getI kk104 (by decide) fl_X12_183 (u2_n (by decide) u2_s) dX12_token_235 ?_
        refine V_goto (tgt := 261) dX12_token_238 rfl ?_
        refine V_putI kk104 (by decide) fl_X12_183 rfl dX12_token_261 ?_
        refine V_al0n dX12_token_264 ?_
        refine V_dup dX12_token_265 rfl ?_
        refine V_getI kk104 (by decide) fl_X12_169 (u2_n (by decide) u2_s) dX12_token_266 ?_
        refine V_iconst dX12_token_269 ?_
        refine V_iadd dX12_token_270 ?_
        refine V_putI kk104 (by decide) fl_X12_169 rfl dX12_token_271 ?_
        refine V_goto (tgt := 213) dX12_token_274 rfl ?_
        rw [if_pos (by omega)] at hw
        rw [u2_4 (by omega)]
        exact w_tk213 hρ hs hs7 ht hQ (q + 1) (by omega) v hv hb hw
termination_by s - q
end TOKEN
/-- what the reading of a text may rely on -/
def TkK (f : IT) : Prop := (0 ≤ f 104 6 ∧ f 104 6 ≤ 700) ∧ (0 ≤ f 104 7 ∧ f 104 7 ≤ f 104 6) ∧ (∀ k, k < 700 → 0 ≤ f 105 k ∧ f 105 k ≤ 255) ∧ ∀ k, k < 143 → f 106 k = WRD k
theorem c_token {ρ : RT} {f : IT} {g : JT} (hρ : Fx ρ) (hK : TkK f) : C_X12_token [.ref 104] ρ f g (fun r ρ' f' g' => r = none ∧ ρ' = ρ ∧ f' = tkF f ∧ g' = g) := by
  obtain ⟨k1, k2, ht, hW⟩ := hK
  obtain ⟨s, hs⟩ : ∃ s : Nat, f 104 6 = s := ⟨(f 104 6).toNat, by omega⟩
  obtain ⟨p, hp⟩ : ∃ p : Nat, f 104 7 = p := ⟨(f 104 7).toNat, by omega⟩
  have hs7 : s ≤ 700 := by omega
  have hps : p ≤ s := by omega
  have etk : tkF f = st4 f (tokT (f 105) s p (f 104 9)) := by unfold tkF; rw [hs, hp]; rfl
  have hal := run1_le (P := isW) (tp := f 105) (s - p) p
  have ea : tokA (f 105) s p = run1 isW (f 105) (s - p) p := rfl
  rw [etk]
  generalize tokA (f 105) s p = a at *
  have has : a ≤ s := by omega
  have htT : tokT (f 105) s p (f 104 9) = if a = s then (s, s, 0, f 104 9) else if isL (f 105 a) = true then wrdT (f 105) a (run1 isL (f 105) (s - a) a) else if isG (f 105 a) = true then (a, run1 isG (f 105) (s - a) a, 3, numV (f 105) (s - a) a 0) else sgnT (f 105) s a := by
    unfold tokT tokA
    rw [← ea]
  generalize tokT (f 105) s p (f 104 9) = t at *
  have hX : V_X12_token (fun r ρ' f' g' => r = none ∧ ρ' = ρ ∧ f' = st4 f t ∧ g' = g) 52 [.ref 104] [] ρ (u2 f 104 7 (a : Int)) g := by
    by_cases e1 : a = s
    · rw [if_pos e1] at htT
      subst e1
      refine V_al0n dX12_token_52 ?_
      refine V_al0n dX12_token_53 ?_
      refine V_getI kk104 (by decide) fl_X12_169 u2_s dX12_token_54 ?_
      refine V_putI kk104 (by decide) fl_X12_163 rfl dX12_token_57 ?_
      refine V_al0n dX12_token_60 ?_
      refine V_getI kk104 (by decide) fl_X12_169 (u2_n (by decide) u2_s) dX12_token_61 ?_
      refine V_al0n dX12_token_64 ?_
      refine V_getI kk104 (by decide) fl_X12_166 (u2_n (by decide) (u2_n (by decide) hs)) dX12_token_65 ?_
      refine V_icmp_ne (tgt := 79) dX12_token_68 rfl (by first | assumption | (unfold ri at *; omega)) (by first | assumption | (unfold ri at *; omega)) (fun b68 => ?_) (fun b68 => ?_)
      · exact absurd rfl b68
      · refine V_al0n dX12_token_71 ?_
        refine V_iconst dX12_token_72 ?_
        refine V_putI kk104 (by decide) fl_X12_172 rfl dX12_token_73 ?_
        refine V_goto (tgt := 281) dX12_token_76 rfl ?_
        exact V_return rfl ⟨rfl, rfl, st4_ext (fun b j q => by rw [u2_o (by omega), u2_o (by omega), u2_o (by omega)]) (by rw [htT]; simp [u2]) (by rw [htT]; simp [u2]) (by rw [htT]; simp [u2]) (by rw [htT]; simp [u2]), rfl⟩ dX12_token_281
    · rw [if_neg e1] at htT
      have hcS := c_isSmall (f := u2 (u2 f 104 7 (a : Int)) 104 10 (a : Int)) (g := g) hρ (p := a) (s := s) (u2_n (by omega) (u2_n (by omega) hs)) hs7 has (fun k hk => by rw [u2_o (by omega), u2_o (by omega)]; exact ht k hk)
      have hcD := c_isDigit (f := u2 (u2 f 104 7 (a : Int)) 104 10 (a : Int)) (g := g) hρ (p := a) (s := s) (u2_n (by omega) (u2_n (by omega) hs)) hs7 has (fun k hk => by rw [u2_o (by omega), u2_o (by omega)]; exact ht k hk)
      rw [u2_o (by omega), u2_o (by omega), decide_eq_true (show a < s by omega), Bool.true_and] at hcS hcD
      have hx90 : isL (f 105 a) = true → V_X12_token (fun r ρ' f' g' => r = none ∧ ρ' = ρ ∧ f' = st4 f t ∧ g' = g) 90 [.ref 104] [] ρ (u2 (u2 f 104 7 (a : Int)) 104 10 (a : Int)) g := by
        intro hL
        rw [if_pos hL] at htT
        have hbl := run1_le (P := isL) (tp := f 105) (s - a) a
        have hbi := run1_in (P := isL) (tp := f 105) (s - a) a
        have hba : a < run1 isL (f 105) (s - a) a := by
          rw [show s - a = (s - (a + 1)) + 1 by omega, run1, if_pos hL]
          have := run1_le (P := isL) (tp := f 105) (s - (a + 1)) (a + 1)
          omega
        have e105 : ∀ x y : Int, (u2 (u2 f 104 10 x) 104 7 y) 105 = f 105 := fun x y => by rw [u2_row (by omega), u2_row (by omega)]
        have key : V_X12_token (fun r ρ' f' g' => r = none ∧ ρ' = ρ ∧ f' = st4 f t ∧ g' = g) 114 [.ref 104] [] ρ (u2 (u2 f 104 10 (a : Int)) 104 7 ((run1 isL (f 105) (s - a) a : Nat) : Int)) g := by
          generalize hb : run1 isL (f 105) (s - a) a = b at *
          have hlt : ∀ i, a ≤ i → i < b → 97 ≤ f 105 i ∧ f 105 i ≤ 122 := fun i i1 i2 => by have := hbi i i1 i2; unfold isL at this; simpa using this
          have hcw := c_wordAt (f := u2 (u2 f 104 10 (a : Int)) 104 7 (b : Int)) (g := g) hρ (a := a) (b := b) (by omega) (by rw [e105]; exact hlt) (fun j hj => by rw [u2_o (by omega), u2_o (by omega)]; exact hW j hj)
          rw [e105] at hcw
          have hwr : -1 ≤ wIdx (f 105) a b ∧ wIdx (f 105) a b ≤ 28 ∧ (6 < b - a → wIdx (f 105) a b = -1) := by
            unfold wIdx
            split
            · unfold fnd
              cases hf : (List.range 29).find? (fun j => decide (MWf (0 + j) = pkd (f 105) a b)) with
              | none => simp only [Option.elim_none]; omega
              | some j => have := List.mem_of_find?_eq_some hf; simp at this; simp only [Option.elim_some]; omega
            · omega
          unfold wrdT at htT
          generalize wIdx (f 105) a b = w at *
          refine V_al0n dX12_token_114 ?_
          refine V_al0n dX12_token_115 ?_
          refine V_al0n dX12_token_116 ?_
          refine V_getI kk104 (by decide) fl_X12_163 (u2_n (by decide) u2_s) dX12_token_117 ?_
          refine V_al0n dX12_token_120 ?_
          refine V_getI kk104 (by decide) fl_X12_169 u2_s dX12_token_121 ?_
          refine V_callV (as := [_, _]) ml_X12_179 im_X12_wordAt se_X12_wordAt kk104 (by decide) (by decide) dX12_token_124 rfl rfl (by decide) (by decide) (Nat.le_of_ble_eq_true rfl) (by decide) (by decide) rfl (hcw) ?_
          refine pq4 ?_
          refine V_putI kk104 (by decide) fl_X12_183 rfl dX12_token_127 ?_
          refine V_al0n dX12_token_130 ?_
          refine V_al0n dX12_token_131 ?_
          refine V_getI kk104 (by decide) fl_X12_183 u2_s dX12_token_132 ?_
          refine V_if_lt (tgt := 142) dX12_token_135 rfl (by first | assumption | (unfold ri at *; omega)) (fun b135 => ?_) (fun b135 => ?_)
          · refine V_al0n dX12_token_142 ?_
            refine V_getI kk104 (by decide) fl_X12_169 (u2_n (by decide) u2_s) dX12_token_143 ?_
            refine V_al0n dX12_token_146 ?_
            refine V_getI kk104 (by decide) fl_X12_163 (u2_n (by decide) (u2_n (by decide) u2_s)) dX12_token_147 ?_
            refine V_isub dX12_token_150 ?_
            refine V_bipush dX12_token_151 rfl ?_
            refine V_icmp_le (tgt := 161) dX12_token_153 rfl (by first | assumption | (unfold ri at *; omega)) (by first | assumption | (unfold ri at *; omega)) (fun b153 => ?_) (fun b153 => ?_)
            · refine V_iconst dX12_token_161 ?_
              refine V_putI kk104 (by decide) fl_X12_172 rfl dX12_token_162 ?_
              refine V_al0n dX12_token_165 ?_
              refine V_getI kk104 (by decide) fl_X12_172 u2_s dX12_token_166 ?_
              refine V_iconst dX12_token_169 ?_
              refine V_icmp_ne (tgt := 281) dX12_token_170 rfl (by first | assumption | (unfold ri at *; omega)) (by first | assumption | (unfold ri at *; omega)) (fun b170 => ?_) (fun b170 => ?_)
              · exact V_return rfl ⟨rfl, rfl, st4_ext (fun c j q => by simp only [u2]; simp [show ¬ (c = 104 ∧ j = 10) by omega, show ¬ (c = 104 ∧ j = 7) by omega, show ¬ (c = 104 ∧ j = 8) by omega, show ¬ (c = 104 ∧ j = 9) by omega]) (by rw [htT]; simp [u2]) (by rw [htT]; simp [u2]) (by rw [htT]; simp only [u2]; simp; (repeat' split) <;> omega) (by rw [htT]; simp only; first | (exfalso; omega) | (rw [if_pos (by omega)]; simp [u2]; done) | (rw [if_neg (by omega), if_pos (by omega)]; simp only [u2]; simp; omega) | (rw [if_neg (by omega), if_neg (by omega), u2_s]; simp only [u2_row (show (105 : Nat) ≠ 104 by omega)])), rfl⟩ dX12_token_281
              · refine V_al0n dX12_token_173 ?_
                refine V_al0n dX12_token_174 ?_
                refine V_al0n dX12_token_175 ?_
                refine V_getI kk104 (by decide) fl_X12_163 (u2_n (by decide) (u2_n (by decide) (u2_n (by decide) u2_s))) dX12_token_176 ?_
                refine V_al0n dX12_token_179 ?_
                refine V_getI kk104 (by decide) fl_X12_169 (u2_n (by decide) (u2_n (by decide) u2_s)) dX12_token_180 ?_
                refine V_callV (as := [_, _]) ml_X12_186 im_X12_packed se_X12_packed kk104 (by decide) (by decide) dX12_token_183 rfl rfl (by decide) (by decide) (Nat.le_of_ble_eq_true rfl) (by decide) (by decide) rfl (c_packed hρ (a := a) (b := b) (by omega) (by rw [u2_row (by omega), u2_row (by omega), e105]; exact hlt)) ?_
                refine pq4 ?_
                refine V_putI kk104 (by decide) fl_X12_183 rfl dX12_token_186 ?_
                refine V_goto (tgt := 281) dX12_token_189 rfl ?_
                exact V_return rfl ⟨rfl, rfl, st4_ext (fun c j q => by simp only [u2]; simp [show ¬ (c = 104 ∧ j = 10) by omega, show ¬ (c = 104 ∧ j = 7) by omega, show ¬ (c = 104 ∧ j = 8) by omega, show ¬ (c = 104 ∧ j = 9) by omega]) (by rw [htT]; simp [u2]) (by rw [htT]; simp [u2]) (by rw [htT]; simp only [u2]; simp; (repeat' split) <;> omega) (by rw [htT]; simp only; first | (exfalso; omega) | (rw [if_pos (by omega)]; simp [u2]; done) | (rw [if_neg (by omega), if_pos (by omega)]; simp only [u2]; simp; omega) | (rw [if_neg (by omega), if_neg (by omega), u2_s]; simp only [u2_row (show (105 : Nat) ≠ 104 by omega)])), rfl⟩ dX12_token_281
            · refine V_bipush dX12_token_156 rfl ?_
              refine V_goto (tgt := 162) dX12_token_158 rfl ?_
              refine V_putI kk104 (by decide) fl_X12_172 rfl dX12_token_162 ?_
              refine V_al0n dX12_token_165 ?_
              refine V_getI kk104 (by decide) fl_X12_172 u2_s dX12_token_166 ?_
              refine V_iconst dX12_token_169 ?_
              refine V_icmp_ne (tgt := 281) dX12_token_170 rfl (by first | assumption | (unfold ri at *; omega)) (by first | assumption | (unfold ri at *; omega)) (fun b170 => ?_) (fun b170 => ?_)
              · exact V_return rfl ⟨rfl, rfl, st4_ext (fun c j q => by simp only [u2]; simp [show ¬ (c = 104 ∧ j = 10) by omega, show ¬ (c = 104 ∧ j = 7) by omega, show ¬ (c = 104 ∧ j = 8) by omega, show ¬ (c = 104 ∧ j = 9) by omega]) (by rw [htT]; simp [u2]) (by rw [htT]; simp [u2]) (by rw [htT]; simp only [u2]; simp; (repeat' split) <;> omega) (by rw [htT]; simp only; first | (exfalso; omega) | (rw [if_pos (by omega)]; simp [u2]; done) | (rw [if_neg (by omega), if_pos (by omega)]; simp only [u2]; simp; omega) | (rw [if_neg (by omega), if_neg (by omega), u2_s]; simp only [u2_row (show (105 : Nat) ≠ 104 by omega)])), rfl⟩ dX12_token_281
              · refine V_al0n dX12_token_173 ?_
                refine V_al0n dX12_token_174 ?_
                refine V_al0n dX12_token_175 ?_
                refine V_getI kk104 (by decide) fl_X12_163 (u2_n (by decide) (u2_n (by decide) (u2_n (by decide) u2_s))) dX12_token_176 ?_
                refine V_al0n dX12_token_179 ?_
                refine V_getI kk104 (by decide) fl_X12_169 (u2_n (by decide) (u2_n (by decide) u2_s)) dX12_token_180 ?_
                refine V_callV (as := [_, _]) ml_X12_186 im_X12_packed se_X12_packed kk104 (by decide) (by decide) dX12_token_183 rfl rfl (by decide) (by decide) (Nat.le_of_ble_eq_true rfl) (by decide) (by decide) rfl (c_packed hρ (a := a) (b := b) (by omega) (by rw [u2_row (by omega), u2_row (by omega), e105]; exact hlt)) ?_
                refine pq4 ?_
                refine V_putI kk104 (by decide) fl_X12_183 rfl dX12_token_186 ?_
                refine V_goto (tgt := 281) dX12_token_189 rfl ?_
                exact V_return rfl ⟨rfl, rfl, st4_ext (fun c j q => by simp only [u2]; simp [show ¬ (c = 104 ∧ j = 10) by omega, show ¬ (c = 104 ∧ j = 7) by omega, show ¬ (c = 104 ∧ j = 8) by omega, show ¬ (c = 104 ∧ j = 9) by omega]) (by rw [htT]; simp [u2]) (by rw [htT]; simp [u2]) (by rw [htT]; simp only [u2]; simp; (repeat' split) <;> omega) (by rw [htT]; simp only; first | (exfalso; omega) | (rw [if_pos (by omega)]; simp [u2]; done) | (rw [if_neg (by omega), if_pos (by omega)]; simp only [u2]; simp; omega) | (rw [if_neg (by omega), if_neg (by omega), u2_s]; simp only [u2_row (show (105 : Nat) ≠ 104 by omega)])), rfl⟩ dX12_token_281
          · refine V_iconst dX12_token_138 ?_
            refine V_goto (tgt := 162) dX12_token_139 rfl ?_
            refine V_putI kk104 (by decide) fl_X12_172 rfl dX12_token_162 ?_
            refine V_al0n dX12_token_165 ?_
            refine V_getI kk104 (by decide) fl_X12_172 u2_s dX12_token_166 ?_
            refine V_iconst dX12_token_169 ?_
            refine V_icmp_ne (tgt := 281) dX12_token_170 rfl (by first | assumption | (unfold ri at *; omega)) (by first | assumption | (unfold ri at *; omega)) (fun b170 => ?_) (fun b170 => ?_)
            · exact V_return rfl ⟨rfl, rfl, st4_ext (fun c j q => by simp only [u2]; simp [show ¬ (c = 104 ∧ j = 10) by omega, show ¬ (c = 104 ∧ j = 7) by omega, show ¬ (c = 104 ∧ j = 8) by omega, show ¬ (c = 104 ∧ j = 9) by omega]) (by rw [htT]; simp [u2]) (by rw [htT]; simp [u2]) (by rw [htT]; simp only [u2]; simp; (repeat' split) <;> omega) (by rw [htT]; simp only; first | (exfalso; omega) | (rw [if_pos (by omega)]; simp [u2]; done) | (rw [if_neg (by omega), if_pos (by omega)]; simp only [u2]; simp; omega) | (rw [if_neg (by omega), if_neg (by omega), u2_s]; simp only [u2_row (show (105 : Nat) ≠ 104 by omega)])), rfl⟩ dX12_token_281
            · refine V_al0n dX12_token_173 ?_
              refine V_al0n dX12_token_174 ?_
              refine V_al0n dX12_token_175 ?_
              refine V_getI kk104 (by decide) fl_X12_163 (u2_n (by decide) (u2_n (by decide) (u2_n (by decide) u2_s))) dX12_token_176 ?_
              refine V_al0n dX12_token_179 ?_
              refine V_getI kk104 (by decide) fl_X12_169 (u2_n (by decide) (u2_n (by decide) u2_s)) dX12_token_180 ?_
              refine V_callV (as := [_, _]) ml_X12_186 im_X12_packed se_X12_packed kk104 (by decide) (by decide) dX12_token_183 rfl rfl (by decide) (by decide) (Nat.le_of_ble_eq_true rfl) (by decide) (by decide) rfl (c_packed hρ (a := a) (b := b) (by omega) (by rw [u2_row (by omega), u2_row (by omega), e105]; exact hlt)) ?_
              refine pq4 ?_
              refine V_putI kk104 (by decide) fl_X12_183 rfl dX12_token_186 ?_
              refine V_goto (tgt := 281) dX12_token_189 rfl ?_
              exact V_return rfl ⟨rfl, rfl, st4_ext (fun c j q => by simp only [u2]; simp [show ¬ (c = 104 ∧ j = 10) by omega, show ¬ (c = 104 ∧ j = 7) by omega, show ¬ (c = 104 ∧ j = 8) by omega, show ¬ (c = 104 ∧ j = 9) by omega]) (by rw [htT]; simp [u2]) (by rw [htT]; simp [u2]) (by rw [htT]; simp only [u2]; simp; (repeat' split) <;> omega) (by rw [htT]; simp only; first | (exfalso; omega) | (rw [if_pos (by omega)]; simp [u2]; done) | (rw [if_neg (by omega), if_pos (by omega)]; simp only [u2]; simp; omega) | (rw [if_neg (by omega), if_neg (by omega), u2_s]; simp only [u2_row (show (105 : Nat) ≠ 104 by omega)])), rfl⟩ dX12_token_281
        have hz := w_tk90 (f := u2 f 104 10 (a : Int)) (g := g) hρ (s := s) (u2_n (by omega) hs) hs7 (fun k hk => by rw [u2_o (by omega)]; exact ht k hk) (b := run1 isL (f 105) (s - a) a) key a has (by rw [u2_row (by omega)])
        rw [u2_cm (by omega)] at hz
        exact hz
      have hx213 : ¬ isL (f 105 a) = true → isG (f 105 a) = true → V_X12_token (fun r ρ' f' g' => r = none ∧ ρ' = ρ ∧ f' = st4 f t ∧ g' = g) 213 [.ref 104] [] ρ (u2 (u2 (u2 (u2 f 104 7 (a : Int)) 104 10 (a : Int)) 104 8 3) 104 9 0) g := by
        intro hL hG
        rw [if_neg hL, if_pos hG] at htT
        have hz := w_tk213 (Q := fun r ρ' f' g' => r = none ∧ ρ' = ρ ∧ f' = st4 f t ∧ g' = g) (f := u2 (u2 f 104 10 (a : Int)) 104 8 3) (g := g) hρ (s := s) (u2_n (by omega) (u2_n (by omega) hs)) hs7 (fun k hk => by rw [u2_o (by omega), u2_o (by omega)]; exact ht k hk) (b := run1 isG (f 105) (s - a) a) (w := numV (f 105) (s - a) a 0) ⟨rfl, rfl, st4_ext (fun c j q => by rw [u2_o (by omega), u2_o (by omega), u2_o (by omega), u2_o (by omega)]) (by rw [htT]; simp [u2]) (by rw [htT]; simp [u2]) (by rw [htT]; simp [u2]) (by rw [htT]; simp [u2]), rfl⟩ a has 0 (by omega) (by rw [u2_row (by omega), u2_row (by omega)]) (by rw [u2_row (by omega), u2_row (by omega)])
        have eF : u2 (u2 (u2 (u2 f 104 7 (a : Int)) 104 10 (a : Int)) 104 8 3) 104 9 0 = u2 (u2 (u2 (u2 f 104 10 (a : Int)) 104 8 3) 104 9 0) 104 7 (a : Int) := by
          rw [u2_cm (f := f) (a := 104) (k := 7) (by omega), u2_cm (f := u2 f 104 10 (a : Int)) (a := 104) (k := 7) (by omega), u2_cm (f := u2 (u2 f 104 10 (a : Int)) 104 8 3) (a := 104) (k := 7) (by omega)]
        rw [eF]
        exact hz
      refine V_al0n dX12_token_52 ?_
      refine V_al0n dX12_token_53 ?_
      refine V_getI kk104 (by decide) fl_X12_169 u2_s dX12_token_54 ?_
      refine V_putI kk104 (by decide) fl_X12_163 rfl dX12_token_57 ?_
      refine V_al0n dX12_token_60 ?_
      refine V_getI kk104 (by decide) fl_X12_169 (u2_n (by decide) u2_s) dX12_token_61 ?_
      refine V_al0n dX12_token_64 ?_
      refine V_getI kk104 (by decide) fl_X12_166 (u2_n (by decide) (u2_n (by decide) hs)) dX12_token_65 ?_
      refine V_icmp_ne (tgt := 79) dX12_token_68 rfl (by first | assumption | (unfold ri at *; omega)) (by first | assumption | (unfold ri at *; omega)) (fun b68 => ?_) (fun b68 => ?_)
      · refine V_al0n dX12_token_79 ?_
        refine V_al0n dX12_token_80 ?_
        refine V_getI kk104 (by decide) fl_X12_169 (u2_n (by decide) u2_s) dX12_token_81 ?_
        refine V_callV (as := [_]) ml_X12_175 im_X12_isSmall se_X12_isSmall kk104 (by decide) (by decide) dX12_token_84 rfl rfl (by decide) (by decide) (Nat.le_of_ble_eq_true rfl) (by decide) (by decide) rfl (hcS) ?_
        refine pq4 ?_
        refine V_bt (tgt := 192) dX12_token_87 rfl (fun b87 => ?_) (fun b87 => ?_)
        · refine V_al0n dX12_token_192 ?_
          refine V_al0n dX12_token_193 ?_
          refine V_getI kk104 (by decide) fl_X12_169 (u2_n (by decide) u2_s) dX12_token_194 ?_
          refine V_callV (as := [_]) ml_X12_189 im_X12_isDigit se_X12_isDigit kk104 (by decide) (by decide) dX12_token_197 rfl rfl (by decide) (by decide) (Nat.le_of_ble_eq_true rfl) (by decide) (by decide) rfl (hcD) ?_
          refine pq4 ?_
          refine V_bt (tgt := 277) dX12_token_200 rfl (fun b200 => ?_) (fun b200 => ?_)
          · refine V_al0n dX12_token_277 ?_
            refine V_callV (as := []) ml_X12_193 im_X12_signToken se_X12_signToken kk104 (by decide) (by decide) dX12_token_278 rfl rfl (by decide) (by decide) (Nat.le_of_ble_eq_true rfl) (by decide) (by decide) rfl (c_signToken hρ (p := a) (s := s) (u2_n (by omega) (u2_n (by omega) hs)) hs7 (by omega) (u2_n (by omega) u2_s) (fun k hk => by rw [u2_o (by omega), u2_o (by omega)]; exact ht k hk)) ?_
            refine pq4 ?_
            exact V_return rfl ⟨rfl, rfl, by
  rw [if_neg (by rw [b87]; exact Bool.false_ne_true), if_neg (by rw [b200]; exact Bool.false_ne_true)] at htT
  have e5 : (u2 (u2 f 104 7 (a : Int)) 104 10 (a : Int)) 105 = f 105 := by rw [u2_row (by omega), u2_row (by omega)]
  rw [e5]
  refine st4_ext (fun c j q => by unfold st3; rw [u2_o (by omega), u2_o (by omega), u2_o (by omega), u2_o (by omega), u2_o (by omega)]) ?_ ?_ ?_ ?_
  · rw [htT]; unfold st3; rw [u2_o (by omega), u2_o (by omega), u2_o (by omega), u2_s]; rfl
  · rw [htT]; unfold st3; rw [u2_o (by omega), u2_o (by omega), u2_s]
  · rw [htT]; unfold st3; rw [u2_o (by omega), u2_s]
  · rw [htT]; unfold st3; rw [u2_s], rfl⟩ dX12_token_281
          · refine V_al0n dX12_token_203 ?_
            refine V_iconst dX12_token_204 ?_
            refine V_putI kk104 (by decide) fl_X12_172 rfl dX12_token_205 ?_
            refine V_al0n dX12_token_208 ?_
            refine V_iconst dX12_token_209 ?_
            refine V_putI kk104 (by decide) fl_X12_183 rfl dX12_token_210 ?_
            exact hx213 (by rw [b87]; exact Bool.false_ne_true) b200
        · exact hx90 b87
      · exfalso; omega
  refine Ct.ofV (by decide) rfl (Nat.le_of_ble_eq_true rfl) ?_
  have hz := w_tk0 hρ hs hs7 ht hX p hps ea.symm
  rw [u2_idE hp] at hz
  exact hz

