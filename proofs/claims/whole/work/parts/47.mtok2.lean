def mtch (tp : Nat → Int) (a b k : Nat) : Prop := b - a = LEN k ∧ ∀ i, i < LEN k → WRD (OFF k + i) = tp (a + i)
theorem w_wa57 {Q : QT} {ρ : RT} {f : IT} {g : JT} (hρ : Fx ρ) {a b k : Nat} (hk : k < 29) (hab : a < b ∧ b ≤ 700) (hl : ∀ i, a ≤ i → i < b → 97 ≤ f 105 i ∧ f 105 i ≤ 122) (hW : ∀ j, j < 143 → f 106 j = WRD j)
    (hX : ∀ sb : Bool, (sb = true ↔ mtch (f 105) a b k) → V_X12_wordAt Q 104 [.ref 104, .int (iz (a : Int)), .int (iz (b : Int)), .int (iz (k : Int)), .int (iz (OFF k : Int)), .int (iz (LEN k : Int)), .int (iz (bz sb)), .null] [] ρ f g)
    (i : Nat) (hi : i ≤ LEN k) (sb : Bool) (h1 : sb = true → b - a = LEN k ∧ ∀ j, j < i → WRD (OFF k + j) = f 105 (a + j)) (h2 : sb = false → ¬ mtch (f 105) a b k) :
    V_X12_wordAt Q 57 [.ref 104, .int (iz (a : Int)), .int (iz (b : Int)), .int (iz (k : Int)), .int (iz (OFF k : Int)), .int (iz (LEN k : Int)), .int (iz (bz sb)), .int (iz (i : Int))] [] ρ f g := by
  obtain ⟨w1, w2, w3, w4, w5, w6⟩ := W_len k hk
  refine V_il7 dX12_wordAt_57 ?_
  refine V_il5 dX12_wordAt_59 ?_
  refine V_icmp_ge (tgt := 104) dX12_wordAt_61 rfl (by first | assumption | (unfold ri at *; omega)) (by first | assumption | (unfold ri at *; omega)) (fun b61 => ?_) (fun b61 => ?_)
  · refine V_weak (by repeat (first | exact wk_n | refine wk_c (Or.inr rfl) ?_ | refine wk_c (Or.inl rfl) ?_)) (hX sb ⟨fun h => ⟨(h1 h).1, fun j hj => (h1 h).2 j (by omega)⟩, fun h => ?_⟩)
    cases sb with
    | false => exact absurd h (h2 rfl)
    | true => rfl
  · refine V_il6 dX12_wordAt_64 ?_
    refine V_bt (tgt := 104) dX12_wordAt_66 rfl (fun b66 => ?_) (fun b66 => ?_)
    · exact V_weak (by repeat (first | exact wk_n | refine wk_c (Or.inr rfl) ?_ | refine wk_c (Or.inl rfl) ?_)) (hX sb ⟨fun h => (by rw [b66] at h; cases h), fun h => absurd h (h2 b66)⟩)
    · obtain ⟨h11, h12⟩ := h1 b66
      have hli := hl (a + i) (by omega) (by omega)
      have hwi := W_let k hk i (by omega)
      refine V_al0n dX12_wordAt_69 ?_
      refine V_getR kk104 (by decide) fl_X12_13 (fx_104_3 hρ) dX12_wordAt_70 ?_
      refine V_il4 dX12_wordAt_73 ?_
      refine V_il7 dX12_wordAt_75 ?_
      refine V_iadd dX12_wordAt_77 ?_
      refine V_iald (k := OFF k + i) kk106 (by decide) (by first | rfl | omega) (by omega) (by first | decide | assumption | omega) (hW _ (by omega)) dX12_wordAt_78 ?_
      refine V_al0n dX12_wordAt_79 ?_
      refine V_getR kk104 (by decide) fl_X12_7 (fx_104_0 hρ) dX12_wordAt_80 ?_
      refine V_il1n dX12_wordAt_83 ?_
      refine V_il7 dX12_wordAt_84 ?_
      refine V_iadd dX12_wordAt_86 ?_
      refine V_iald (k := a + i) kk105 (by decide) (by first | rfl | omega) (by omega) (by first | decide | assumption | omega) rfl dX12_wordAt_87 ?_
      refine V_icmp_ne (tgt := 95) dX12_wordAt_88 rfl (by first | assumption | (unfold ri at *; omega)) (by first | assumption | (unfold ri at *; omega)) (fun b88 => ?_) (fun b88 => ?_)
      · refine V_iconst dX12_wordAt_95 ?_
        refine V_is6 dX12_wordAt_96 (by decide) rfl ?_
        refine V_inc7 dX12_wordAt_98 (by decide) rfl ?_
        refine V_goto (tgt := 57) dX12_wordAt_101 rfl ?_
        exact w_wa57 hρ hk hab hl hW hX (i + 1) (by omega) false (fun h => by cases h) (fun _ h => b88 (h.2 i (by omega)))
      · refine V_iconst dX12_wordAt_91 ?_
        refine V_goto (tgt := 96) dX12_wordAt_92 rfl ?_
        refine V_is6 dX12_wordAt_96 (by decide) rfl ?_
        refine V_inc7 dX12_wordAt_98 (by decide) rfl ?_
        refine V_goto (tgt := 57) dX12_wordAt_101 rfl ?_
        exact w_wa57 hρ hk hab hl hW hX (i + 1) (by omega) true (fun _ => ⟨h11, fun j hj => by by_cases e : j = i; (rw [e]; exact b88); exact h12 j (by omega)⟩) (fun h => by cases h)
termination_by LEN k - i
theorem w_wa18 {Q : QT} {ρ : RT} {f : IT} {g : JT} (hρ : Fx ρ) {a b k : Nat} (hk : k < 29) (hW : ∀ j, j < 143 → f 106 j = WRD j)
    (hX : V_X12_wordAt Q 39 [.ref 104, .int (iz (a : Int)), .int (iz (b : Int)), .int (iz (k : Int)), .int (iz (OFF k : Int)), .int (iz (LEN k : Int)), .null, .null] [] ρ f g)
    (n : Nat) (hn : n ≤ LEN k) : V_X12_wordAt Q 18 [.ref 104, .int (iz (a : Int)), .int (iz (b : Int)), .int (iz (k : Int)), .int (iz (OFF k : Int)), .int (iz (n : Int)), .null, .null] [] ρ f g := by
  obtain ⟨w1, w2, w3, w4, w5, w6⟩ := W_len k hk
  by_cases e : n = LEN k
  · subst e
    refine V_al0n dX12_wordAt_18 ?_
    refine V_getR kk104 (by decide) fl_X12_13 (fx_104_3 hρ) dX12_wordAt_19 ?_
    refine V_il4 dX12_wordAt_22 ?_
    refine V_il5 dX12_wordAt_24 ?_
    refine V_iadd dX12_wordAt_26 ?_
    refine V_iald (k := OFF k + LEN k) kk106 (by decide) (by first | rfl | omega) (by omega) (by first | decide | assumption | omega) ((hW _ (by omega)).trans w5) dX12_wordAt_27 ?_
    refine V_bipush dX12_wordAt_28 rfl ?_
    refine V_icmp_eq (tgt := 39) dX12_wordAt_30 rfl (by first | assumption | (unfold ri at *; omega)) (by first | assumption | (unfold ri at *; omega)) (fun b30 => ?_) (fun b30 => ?_)
    · exact hX
    · exfalso; omega
  · have hwi := W_let k hk n (by omega)
    refine V_al0n dX12_wordAt_18 ?_
    refine V_getR kk104 (by decide) fl_X12_13 (fx_104_3 hρ) dX12_wordAt_19 ?_
    refine V_il4 dX12_wordAt_22 ?_
    refine V_il5 dX12_wordAt_24 ?_
    refine V_iadd dX12_wordAt_26 ?_
    refine V_iald (k := OFF k + n) kk106 (by decide) (by first | rfl | omega) (by omega) (by first | decide | assumption | omega) (hW _ (by omega)) dX12_wordAt_27 ?_
    refine V_bipush dX12_wordAt_28 rfl ?_
    refine V_icmp_eq (tgt := 39) dX12_wordAt_30 rfl (by first | assumption | (unfold ri at *; omega)) (by first | assumption | (unfold ri at *; omega)) (fun b30 => ?_) (fun b30 => ?_)
    · exfalso; omega
    · refine V_inc5 dX12_wordAt_33 (by decide) rfl ?_
      refine V_goto (tgt := 18) dX12_wordAt_36 rfl ?_
      exact w_wa18 hρ hk hW hX (n + 1) (by omega)
termination_by LEN k - n
theorem w_wa5 {Q : QT} {ρ : RT} {f : IT} {g : JT} (hρ : Fx ρ) {a b : Nat} (hab : a < b ∧ b ≤ 700) (hl : ∀ i, a ≤ i → i < b → 97 ≤ f 105 i ∧ f 105 i ≤ 122) (hW : ∀ j, j < 143 → f 106 j = WRD j)
    (hQ : Q (some (.int (iz (wIdx (f 105) a b)))) ρ f g) (k : Nat) (hk : k ≤ 29) (hb : ∀ j, j < k → ¬ mtch (f 105) a b j) :
    V_X12_wordAt Q 5 [.ref 104, .int (iz (a : Int)), .int (iz (b : Int)), .int (iz (k : Int)), .int (iz (OFF k : Int)), .null, .null, .null] [] ρ f g := by
  by_cases e : k = 29
  · subst e
    have hz : wIdx (f 105) a b = -1 := by
      unfold wIdx
      split
      · rename_i h6
        exact fnd_no (fun j hj h => hb j hj ((word_is hj hab.1 hl).mpr ⟨h6, by rw [← h, Nat.zero_add]⟩))
      · rfl
    rw [hz] at hQ
    have ho : OFF 29 = 143 := rfl
    rw [ho]
    refine V_il4 dX12_wordAt_5 ?_
    refine V_al0n dX12_wordAt_7 ?_
    refine V_getR kk104 (by decide) fl_X12_13 (fx_104_3 hρ) dX12_wordAt_8 ?_
    refine V_alen kk106 (by decide) (by decide) dX12_wordAt_11 ?_
    refine V_icmp_ge (tgt := 126) dX12_wordAt_12 rfl (by first | assumption | (unfold ri at *; omega)) (by first | assumption | (unfold ri at *; omega)) (fun b12 => ?_) (fun b12 => ?_)
    · refine V_iconst dX12_wordAt_126 ?_
      exact V_ireturn rfl hQ dX12_wordAt_127
    · exfalso; omega
  · have hk' : k < 29 := by omega
    obtain ⟨w1, w2, w3, w4, w5, w6⟩ := W_len k hk'
    have hX104 : ∀ sb : Bool, (sb = true ↔ mtch (f 105) a b k) → V_X12_wordAt Q 104 [.ref 104, .int (iz (a : Int)), .int (iz (b : Int)), .int (iz (k : Int)), .int (iz (OFF k : Int)), .int (iz (LEN k : Int)), .int (iz (bz sb)), .null] [] ρ f g := by
      intro sb hsb
      have hx := fun (hn : ¬ mtch (f 105) a b k) => w_wa5 hρ hab hl hW hQ (k + 1) (by omega) (fun j hj => by by_cases e : j = k; (rw [e]; exact hn); exact hb j (by omega))
      rw [w4] at hx
      refine V_il6 dX12_wordAt_104 ?_
      refine V_bt (tgt := 111) dX12_wordAt_106 rfl (fun b106 => ?_) (fun b106 => ?_)
      · refine V_il4 dX12_wordAt_111 ?_
        refine V_il5 dX12_wordAt_113 ?_
        refine V_iconst dX12_wordAt_115 ?_
        refine V_iadd dX12_wordAt_116 ?_
        refine V_iadd dX12_wordAt_117 ?_
        refine V_is4 dX12_wordAt_118 (by decide) rfl ?_
        refine V_inc3 dX12_wordAt_120 (by decide) rfl ?_
        refine V_goto (tgt := 5) dX12_wordAt_123 rfl ?_
        exact V_weak (by repeat (first | exact wk_n | refine wk_c (Or.inr rfl) ?_ | refine wk_c (Or.inl rfl) ?_)) (hx (fun hm => by rw [hsb.mpr hm] at b106; cases b106))
      · refine V_il3n dX12_wordAt_109 ?_
        exact V_ireturn rfl (by have hm := (word_is hk' hab.1 hl).mp (hsb.mp b106); have hz : wIdx (f 105) a b = (k : Int) := (by unfold wIdx; rw [if_pos hm.1]; exact fnd_yes hk' (by rw [Nat.zero_add]; exact hm.2.symm) (fun j hj h => hb j hj ((word_is (by omega) hab.1 hl).mpr ⟨hm.1, by rw [← h, Nat.zero_add]⟩))); rw [hz] at hQ; exact hQ) dX12_wordAt_110
    have hX39 : V_X12_wordAt Q 39 [.ref 104, .int (iz (a : Int)), .int (iz (b : Int)), .int (iz (k : Int)), .int (iz (OFF k : Int)), .int (iz (LEN k : Int)), .null, .null] [] ρ f g := by
      refine V_il5 dX12_wordAt_39 ?_
      refine V_il2n dX12_wordAt_41 ?_
      refine V_il1n dX12_wordAt_42 ?_
      refine V_isub dX12_wordAt_43 ?_
      refine V_icmp_ne (tgt := 51) dX12_wordAt_44 rfl (by first | assumption | (unfold ri at *; omega)) (by first | assumption | (unfold ri at *; omega)) (fun b44 => ?_) (fun b44 => ?_)
      · refine V_iconst dX12_wordAt_51 ?_
        refine V_is6 dX12_wordAt_52 (by decide) rfl ?_
        refine V_iconst dX12_wordAt_54 ?_
        refine V_is7 dX12_wordAt_55 (by decide) rfl ?_
        exact w_wa57 hρ hk' hab hl hW hX104 0 (by omega) false (fun h => by cases h) (fun _ h => b44 (by have := h.1; omega))
      · refine V_iconst dX12_wordAt_47 ?_
        refine V_goto (tgt := 52) dX12_wordAt_48 rfl ?_
        refine V_is6 dX12_wordAt_52 (by decide) rfl ?_
        refine V_iconst dX12_wordAt_54 ?_
        refine V_is7 dX12_wordAt_55 (by decide) rfl ?_
        exact w_wa57 hρ hk' hab hl hW hX104 0 (by omega) true (fun _ => ⟨by omega, fun j hj => by omega⟩) (fun h => by cases h)
    refine V_il4 dX12_wordAt_5 ?_
    refine V_al0n dX12_wordAt_7 ?_
    refine V_getR kk104 (by decide) fl_X12_13 (fx_104_3 hρ) dX12_wordAt_8 ?_
    refine V_alen kk106 (by decide) (by decide) dX12_wordAt_11 ?_
    refine V_icmp_ge (tgt := 126) dX12_wordAt_12 rfl (by first | assumption | (unfold ri at *; omega)) (by first | assumption | (unfold ri at *; omega)) (fun b12 => ?_) (fun b12 => ?_)
    · exfalso; omega
    · refine V_iconst dX12_wordAt_15 ?_
      refine V_is5 dX12_wordAt_16 (by decide) rfl ?_
      exact w_wa18 hρ hk' hW hX39 0 (by omega)
termination_by 29 - k
theorem c_wordAt {ρ : RT} {f : IT} {g : JT} (hρ : Fx ρ) {a b : Nat} (hab : a < b ∧ b ≤ 700) (hl : ∀ i, a ≤ i → i < b → 97 ≤ f 105 i ∧ f 105 i ≤ 122) (hW : ∀ j, j < 143 → f 106 j = WRD j) :
    C_X12_wordAt [.ref 104, .int (iz (a : Int)), .int (iz (b : Int))] ρ f g (fun r ρ' f' g' => r = some (.int (iz (wIdx (f 105) a b))) ∧ ρ' = ρ ∧ f' = f ∧ g' = g) := by
  refine Ct.ofV (by decide) rfl (Nat.le_of_ble_eq_true rfl) ?_
  refine V_iconst dX12_wordAt_0 ?_
  refine V_is3n dX12_wordAt_1 (by decide) rfl ?_
  refine V_iconst dX12_wordAt_2 ?_
  refine V_is4 dX12_wordAt_3 (by decide) rfl ?_
  exact w_wa5 hρ hab hl hW ⟨rfl, rfl, rfl, rfl⟩ 0 (by omega) (fun j hj => by omega)
theorem u2_u2 {α : Type} {f : Nat → Nat → α} {a k : Nat} {x y : α} : u2 (u2 f a k x) a k y = u2 f a k y := by
  funext b j
  unfold u2
  split <;> rfl
theorem u2_id {α : Type} {f : Nat → Nat → α} {a k : Nat} : u2 f a k (f a k) = f := by
  funext b j
  unfold u2
  split
  · rename_i h
    rw [h.1, h.2]
  · rfl
theorem u2_idE {α : Type} {f : Nat → Nat → α} {a k : Nat} {x : α} (h : f a k = x) : u2 f a k x = f := by rw [← h]; exact u2_id
theorem u2_cm {α : Type} {f : Nat → Nat → α} {a k b j : Nat} {x y : α} (h : ¬ (a = b ∧ k = j)) : u2 (u2 f a k x) b j y = u2 (u2 f b j y) a k x := by
  funext c i
  unfold u2
  by_cases h1 : c = b ∧ i = j
  · obtain ⟨rfl, rfl⟩ := h1
    rw [if_pos ⟨rfl, rfl⟩, if_neg (fun q => h ⟨q.1.symm, q.2.symm⟩), if_pos ⟨rfl, rfl⟩]
  · rw [if_neg h1]
    by_cases h2 : c = a ∧ i = k
    · rw [if_pos h2, if_pos h2]
    · rw [if_neg h2, if_neg h2, if_neg h1]
/-! a sign, and a token: at, next, kind, which -/
abbrev T4 : Type := Nat × Nat × Int × Int
def nxc (tp : Nat → Int) (s p : Nat) : Int := if p + 1 < s then tp (p + 1) else 0
/-- by the sign and the byte behind it -/
def sgnC (c th : Int) (p : Nat) : T4 :=
  (p, if (c = 60 ∨ c = 62 ∨ c = 61) ∧ ((c ≠ 61 ∧ th = 61) ∨ (c = 60 ∧ th = 62)) then p + 2 else p + 1,
   if c = 60 ∨ c = 62 ∨ c = 61 then 5 else if c = 59 ∨ c = 40 ∨ c = 41 ∨ c = 43 ∨ c = 45 ∨ c = 42 ∨ c = 47 ∨ c = 37 then 4 else 6,
   if c = 61 then 2 else if c = 60 then (if th = 61 then 1 else if th = 62 then 3 else 0) else if c = 62 then (if th = 61 then 4 else 5) else c)
def sgnT (tp : Nat → Int) (s p : Nat) : T4 := sgnC (tp p) (nxc tp s p) p
def st3 (f : IT) (t : T4) : IT := u2 (u2 (u2 f 104 7 (t.2.1 : Int)) 104 8 t.2.2.1) 104 9 t.2.2.2
theorem c_signToken {ρ : RT} {f : IT} {g : JT} (hρ : Fx ρ) {p s : Nat} (hs : f 104 6 = (s : Int)) (hs7 : s ≤ 700) (hp : p < s) (h7 : f 104 7 = (p : Int)) (ht : ∀ k, k < 700 → 0 ≤ f 105 k ∧ f 105 k ≤ 255) :
    C_X12_signToken [.ref 104] ρ f g (fun r ρ' f' g' => r = none ∧ ρ' = ρ ∧ f' = st3 f (sgnT (f 105) s p) ∧ g' = g) := by
  have h0 := ht p (by omega)
  generalize ec : f 105 p = c at *
  obtain ⟨th, eth, hth⟩ : ∃ th : Int, th = nxc (f 105) s p ∧ (0 ≤ th ∧ th ≤ 255) := ⟨_, rfl, by unfold nxc; split; (exact ht _ (by omega)); omega⟩
  have esg : sgnT (f 105) s p = sgnC c th p := by unfold sgnT; rw [ec, eth]
  obtain ⟨eqB, heq⟩ : ∃ b : Bool, b = decide (c ≠ 61 ∧ th = 61) := ⟨_, rfl⟩
  obtain ⟨unB, hun⟩ : ∃ b : Bool, b = decide (c = 60 ∧ th = 62) := ⟨_, rfl⟩
  obtain ⟨n2, hn2⟩ : ∃ n : Int, n = (if (eqB || unB) = true then (p : Int) + 1 + 1 else (p : Int) + 1) := ⟨_, rfl⟩
  have fin : ∀ F : IT, (∀ b j, ¬ (b = 104 ∧ (j = 7 ∨ j = 8 ∨ j = 9)) → F b j = f b j) → F 104 7 = ((sgnT (f 105) s p).2.1 : Int) → F 104 8 = (sgnT (f 105) s p).2.2.1 → F 104 9 = (sgnT (f 105) s p).2.2.2 → F = st3 f (sgnT (f 105) s p) := by
    intro F h1 h2 h3 h4
    funext b j
    unfold st3
    by_cases q : b = 104 ∧ (j = 7 ∨ j = 8 ∨ j = 9)
    · obtain ⟨rfl, rfl | rfl | rfl⟩ := q
      · rw [u2_o (by omega), u2_o (by omega), u2_s]; exact h2
      · rw [u2_o (by omega), u2_s]; exact h3
      · rw [u2_s]; exact h4
    · rw [h1 b j q, u2_o (by omega), u2_o (by omega), u2_o (by omega)]
  generalize hQ : (fun (r : Option Value) (ρ' : RT) (f' : IT) (g' : JT) => r = none ∧ ρ' = ρ ∧ f' = st3 f (sgnT (f 105) s p) ∧ g' = g) = Q
  have k135 : (c = 60 ∨ c = 62 ∨ c = 61) → V_X12_signToken Q 135 [.ref 104, .int (iz th), .int (iz (bz eqB)), .int (iz (bz unB))] [] ρ (u2 (u2 f 104 9 c) 104 7 n2) g := by
    intro hc
    have go : ∀ x : Int, x = (sgnT (f 105) s p).2.2.2 → Q none ρ (u2 (u2 (u2 (u2 f 104 9 c) 104 7 n2) 104 8 5) 104 9 x) g := by
      intro x hx
      rw [← hQ]
      refine ⟨rfl, rfl, fin _ (fun b j q => by rw [u2_o (by omega), u2_o (by omega), u2_o (by omega), u2_o (by omega)]) ?_ ?_ (by rw [u2_s, hx]), rfl⟩
      · rw [u2_o (by omega), u2_o (by omega), u2_s, hn2, heq, hun, esg]
        simp only [sgnC, ← Bool.decide_or, decide_eq_true_eq]
        by_cases q : (c ≠ 61 ∧ th = 61) ∨ (c = 60 ∧ th = 62)
        · rw [if_pos q, if_pos ⟨hc, q⟩]; omega
        · rw [if_neg q, if_neg (fun h => q h.2)]; omega
      · rw [u2_o (by omega), u2_s, esg]
        simp only [sgnC]
        rw [if_pos hc]
    refine V_al0n dX12_signToken_135 ?_
    refine V_iconst dX12_signToken_136 ?_
    refine V_putI kk104 (by decide) fl_X12_172 rfl dX12_signToken_137 ?_
    refine V_al0n dX12_signToken_140 ?_
    refine V_al0n dX12_signToken_141 ?_
    refine V_getI kk104 (by decide) fl_X12_183 (u2_n (by decide) (u2_n (by decide) u2_s)) dX12_signToken_142 ?_
    refine V_bipush dX12_signToken_145 rfl ?_
    refine V_icmp_ne (tgt := 154) dX12_signToken_147 rfl (by first | assumption | (unfold ri at *; omega)) (by first | assumption | (unfold ri at *; omega)) (fun b147 => ?_) (fun b147 => ?_)
    · refine V_al0n dX12_signToken_154 ?_
      refine V_getI kk104 (by decide) fl_X12_183 (u2_n (by decide) (u2_n (by decide) u2_s)) dX12_signToken_155 ?_
      refine V_bipush dX12_signToken_158 rfl ?_
      refine V_icmp_ne (tgt := 183) dX12_signToken_160 rfl (by first | assumption | (unfold ri at *; omega)) (by first | assumption | (unfold ri at *; omega)) (fun b160 => ?_) (fun b160 => ?_)
      · refine V_il2n dX12_signToken_183 ?_
        refine V_bt (tgt := 191) dX12_signToken_184 rfl (fun b184 => ?_) (fun b184 => ?_)
        · refine V_iconst dX12_signToken_191 ?_
          refine V_putI kk104 (by decide) fl_X12_183 rfl dX12_signToken_192 ?_
          refine V_goto (tgt := 290) dX12_signToken_195 rfl ?_
          exact V_return rfl (go _ (by rw [esg]; simp only [sgnC]; have e1 : eqB = true ↔ (¬ c = 61 ∧ th = 61) := (by rw [heq]; simp); have e2 : unB = true ↔ (c = 60 ∧ th = 62) := (by rw [hun]; simp); (try rw [b164] at e1); (try rw [b184] at e1); (try rw [b172] at e2); (try simp only [true_iff, Bool.false_eq_true, false_iff] at e1 e2); (repeat' split) <;> omega)) dX12_signToken_290
        · refine V_iconst dX12_signToken_187 ?_
          refine V_goto (tgt := 192) dX12_signToken_188 rfl ?_
          refine V_putI kk104 (by decide) fl_X12_183 rfl dX12_signToken_192 ?_
          refine V_goto (tgt := 290) dX12_signToken_195 rfl ?_
          exact V_return rfl (go _ (by rw [esg]; simp only [sgnC]; have e1 : eqB = true ↔ (¬ c = 61 ∧ th = 61) := (by rw [heq]; simp); have e2 : unB = true ↔ (c = 60 ∧ th = 62) := (by rw [hun]; simp); (try rw [b164] at e1); (try rw [b184] at e1); (try rw [b172] at e2); (try simp only [true_iff, Bool.false_eq_true, false_iff] at e1 e2); (repeat' split) <;> omega)) dX12_signToken_290
      · refine V_il2n dX12_signToken_163 ?_
        refine V_bt (tgt := 171) dX12_signToken_164 rfl (fun b164 => ?_) (fun b164 => ?_)
        · refine V_il3n dX12_signToken_171 ?_
          refine V_bt (tgt := 179) dX12_signToken_172 rfl (fun b172 => ?_) (fun b172 => ?_)
          · refine V_iconst dX12_signToken_179 ?_
            refine V_goto (tgt := 192) dX12_signToken_180 rfl ?_
            refine V_putI kk104 (by decide) fl_X12_183 rfl dX12_signToken_192 ?_
            refine V_goto (tgt := 290) dX12_signToken_195 rfl ?_
            exact V_return rfl (go _ (by rw [esg]; simp only [sgnC]; have e1 : eqB = true ↔ (¬ c = 61 ∧ th = 61) := (by rw [heq]; simp); have e2 : unB = true ↔ (c = 60 ∧ th = 62) := (by rw [hun]; simp); (try rw [b164] at e1); (try rw [b184] at e1); (try rw [b172] at e2); (try simp only [true_iff, Bool.false_eq_true, false_iff] at e1 e2); (repeat' split) <;> omega)) dX12_signToken_290
          · refine V_iconst dX12_signToken_175 ?_
            refine V_goto (tgt := 192) dX12_signToken_176 rfl ?_
            refine V_putI kk104 (by decide) fl_X12_183 rfl dX12_signToken_192 ?_
            refine V_goto (tgt := 290) dX12_signToken_195 rfl ?_
            exact V_return rfl (go _ (by rw [esg]; simp only [sgnC]; have e1 : eqB = true ↔ (¬ c = 61 ∧ th = 61) := (by rw [heq]; simp); have e2 : unB = true ↔ (c = 60 ∧ th = 62) := (by rw [hun]; simp); (try rw [b164] at e1); (try rw [b184] at e1); (try rw [b172] at e2); (try simp only [true_iff, Bool.false_eq_true, false_iff] at e1 e2); (repeat' split) <;> omega)) dX12_signToken_290
        · refine V_iconst dX12_signToken_167 ?_
          refine V_goto (tgt := 192) dX12_signToken_168 rfl ?_
          refine V_putI kk104 (by decide) fl_X12_183 rfl dX12_signToken_192 ?_
          refine V_goto (tgt := 290) dX12_signToken_195 rfl ?_
          exact V_return rfl (go _ (by rw [esg]; simp only [sgnC]; have e1 : eqB = true ↔ (¬ c = 61 ∧ th = 61) := (by rw [heq]; simp); have e2 : unB = true ↔ (c = 60 ∧ th = 62) := (by rw [hun]; simp); (try rw [b164] at e1); (try rw [b184] at e1); (try rw [b172] at e2); (try simp only [true_iff, Bool.false_eq_true, false_iff] at e1 e2); (repeat' split) <;> omega)) dX12_signToken_290
    · refine V_iconst dX12_signToken_150 ?_
      refine V_goto (tgt := 192) dX12_signToken_151 rfl ?_
      refine V_putI kk104 (by decide) fl_X12_183 rfl dX12_signToken_192 ?_
      refine V_goto (tgt := 290) dX12_signToken_195 rfl ?_
      exact V_return rfl (go _ (by rw [esg]; simp only [sgnC]; have e1 : eqB = true ↔ (¬ c = 61 ∧ th = 61) := (by rw [heq]; simp); have e2 : unB = true ↔ (c = 60 ∧ th = 62) := (by rw [hun]; simp); (try rw [b164] at e1); (try rw [b184] at e1); (try rw [b172] at e2); (try simp only [true_iff, Bool.false_eq_true, false_iff] at e1 e2); (repeat' split) <;> omega)) dX12_signToken_290
  have k117 : (c = 60 ∨ c = 62 ∨ c = 61) → V_X12_signToken Q 117 [.ref 104, .int (iz th), .int (iz (bz eqB)), .int (iz (bz unB))] [] ρ (u2 (u2 f 104 9 c) 104 7 ((p : Int) + 1)) g := by
    intro hc
    have k := k135 hc
    rw [hn2] at k
    refine V_il2n dX12_signToken_117 ?_
    refine V_bf (tgt := 125) dX12_signToken_118 rfl (fun b118 => ?_) (fun b118 => ?_)
    · refine V_al0n dX12_signToken_125 ?_
      refine V_dup dX12_signToken_126 rfl ?_
      refine V_getI kk104 (by decide) fl_X12_169 u2_s dX12_signToken_127 ?_
      refine V_iconst dX12_signToken_130 ?_
      refine V_iadd dX12_signToken_131 ?_
      refine V_putI kk104 (by decide) fl_X12_169 rfl dX12_signToken_132 ?_
      (first | (rw [b118] at k) | skip); (first | (rw [b122] at k) | skip); simp only [Bool.or_true, Bool.true_or, Bool.or_false, if_true, Bool.false_eq_true, if_false] at k; (try rw [u2_u2]); first | exact k | (rw [b118, b122]; exact k) | (rw [b122]; exact k) | (rw [b118]; exact k)
    · refine V_il3n dX12_signToken_121 ?_
      refine V_bt (tgt := 135) dX12_signToken_122 rfl (fun b122 => ?_) (fun b122 => ?_)
      · (first | (rw [b118] at k) | skip); (first | (rw [b122] at k) | skip); simp only [Bool.or_true, Bool.true_or, Bool.or_false, if_true, Bool.false_eq_true, if_false] at k; (try rw [u2_u2]); first | exact k | (rw [b118, b122]; exact k) | (rw [b122]; exact k) | (rw [b118]; exact k)
      · refine V_al0n dX12_signToken_125 ?_
        refine V_dup dX12_signToken_126 rfl ?_
        refine V_getI kk104 (by decide) fl_X12_169 u2_s dX12_signToken_127 ?_
        refine V_iconst dX12_signToken_130 ?_
        refine V_iadd dX12_signToken_131 ?_
        refine V_putI kk104 (by decide) fl_X12_169 rfl dX12_signToken_132 ?_
        (first | (rw [b118] at k) | skip); (first | (rw [b122] at k) | skip); simp only [Bool.or_true, Bool.true_or, Bool.or_false, if_true, Bool.false_eq_true, if_false] at k; (try rw [u2_u2]); first | exact k | (rw [b118, b122]; exact k) | (rw [b122]; exact k) | (rw [b118]; exact k)
  have k96 : (c = 60 ∨ c = 62 ∨ c = 61) → V_X12_signToken Q 96 [.ref 104, .int (iz th), .int (iz (bz eqB)), .null] [] ρ (u2 (u2 f 104 9 c) 104 7 ((p : Int) + 1)) g := by
    intro hc
    have k := k117 hc
    refine V_al0n dX12_signToken_96 ?_
    refine V_getI kk104 (by decide) fl_X12_183 (u2_n (by decide) u2_s) dX12_signToken_97 ?_
    refine V_bipush dX12_signToken_100 rfl ?_
    refine V_icmp_ne (tgt := 115) dX12_signToken_102 rfl (by first | assumption | (unfold ri at *; omega)) (by first | assumption | (unfold ri at *; omega)) (fun b102 => ?_) (fun b102 => ?_)
    · refine V_iconst dX12_signToken_115 ?_
      refine V_is3n dX12_signToken_116 (by decide) rfl ?_
      rw [hun] at k; first | (rw [decide_eq_true (by omega)] at k; exact k) | (rw [decide_eq_false (by omega)] at k; exact k)
    · refine V_il1n dX12_signToken_105 ?_
      refine V_bipush dX12_signToken_106 rfl ?_
      refine V_icmp_ne (tgt := 115) dX12_signToken_108 rfl (by first | assumption | (unfold ri at *; omega)) (by first | assumption | (unfold ri at *; omega)) (fun b108 => ?_) (fun b108 => ?_)
      · refine V_iconst dX12_signToken_115 ?_
        refine V_is3n dX12_signToken_116 (by decide) rfl ?_
        rw [hun] at k; first | (rw [decide_eq_true (by omega)] at k; exact k) | (rw [decide_eq_false (by omega)] at k; exact k)
      · refine V_iconst dX12_signToken_111 ?_
        refine V_goto (tgt := 116) dX12_signToken_112 rfl ?_
        refine V_is3n dX12_signToken_116 (by decide) rfl ?_
        rw [hun] at k; first | (rw [decide_eq_true (by omega)] at k; exact k) | (rw [decide_eq_false (by omega)] at k; exact k)
  have k75 : (c = 60 ∨ c = 62 ∨ c = 61) → V_X12_signToken Q 75 [.ref 104, .int (iz th), .null, .null] [] ρ (u2 (u2 f 104 9 c) 104 7 ((p : Int) + 1)) g := by
    intro hc
    have k := k96 hc
    refine V_al0n dX12_signToken_75 ?_
    refine V_getI kk104 (by decide) fl_X12_183 (u2_n (by decide) u2_s) dX12_signToken_76 ?_
    refine V_bipush dX12_signToken_79 rfl ?_
    refine V_icmp_eq (tgt := 94) dX12_signToken_81 rfl (by first | assumption | (unfold ri at *; omega)) (by first | assumption | (unfold ri at *; omega)) (fun b81 => ?_) (fun b81 => ?_)
    · refine V_iconst dX12_signToken_94 ?_
      refine V_is2n dX12_signToken_95 (by decide) rfl ?_
      rw [heq] at k; first | (rw [decide_eq_true (by omega)] at k; exact k) | (rw [decide_eq_false (by omega)] at k; exact k)
    · refine V_il1n dX12_signToken_84 ?_
      refine V_bipush dX12_signToken_85 rfl ?_
      refine V_icmp_ne (tgt := 94) dX12_signToken_87 rfl (by first | assumption | (unfold ri at *; omega)) (by first | assumption | (unfold ri at *; omega)) (fun b87 => ?_) (fun b87 => ?_)
      · refine V_iconst dX12_signToken_94 ?_
        refine V_is2n dX12_signToken_95 (by decide) rfl ?_
        rw [heq] at k; first | (rw [decide_eq_true (by omega)] at k; exact k) | (rw [decide_eq_false (by omega)] at k; exact k)
      · refine V_iconst dX12_signToken_90 ?_
        refine V_goto (tgt := 95) dX12_signToken_91 rfl ?_
        refine V_is2n dX12_signToken_95 (by decide) rfl ?_
        rw [heq] at k; first | (rw [decide_eq_true (by omega)] at k; exact k) | (rw [decide_eq_false (by omega)] at k; exact k)
  have k50 : (c = 60 ∨ c = 62 ∨ c = 61) → V_X12_signToken Q 50 [.ref 104, .null, .null, .null] [] ρ (u2 (u2 f 104 9 c) 104 7 ((p : Int) + 1)) g := by
    intro hc
    have k := k75 hc
    refine V_al0n dX12_signToken_50 ?_
    refine V_getI kk104 (by decide) fl_X12_169 u2_s dX12_signToken_51 ?_
    refine V_al0n dX12_signToken_54 ?_
    refine V_getI kk104 (by decide) fl_X12_166 hs dX12_signToken_55 ?_
    refine V_icmp_ge (tgt := 73) dX12_signToken_58 rfl (by first | assumption | (unfold ri at *; omega)) (by first | assumption | (unfold ri at *; omega)) (fun b58 => ?_) (fun b58 => ?_)
    · refine V_iconst dX12_signToken_73 ?_
      refine V_is1n dX12_signToken_74 (by decide) rfl ?_
      rw [eth] at k; unfold nxc at k; first | (rw [if_pos (by omega)] at k; exact k) | (rw [if_neg (by omega)] at k; exact k)
    · refine V_al0n dX12_signToken_61 ?_
      refine V_getR kk104 (by decide) fl_X12_7 (fx_104_0 hρ) dX12_signToken_62 ?_
      refine V_al0n dX12_signToken_65 ?_
      refine V_getI kk104 (by decide) fl_X12_169 u2_s dX12_signToken_66 ?_
      refine V_iald (k := p + 1) kk105 (by decide) (by first | rfl | omega) (by omega) (by first | decide | assumption | omega) rfl dX12_signToken_69 ?_
      refine V_goto (tgt := 74) dX12_signToken_70 rfl ?_
      refine V_is1n dX12_signToken_74 (by decide) rfl ?_
      rw [eth] at k; unfold nxc at k; first | (rw [if_pos (by omega)] at k; exact k) | (rw [if_neg (by omega)] at k; exact k)
  have k198 : ¬ (c = 60 ∨ c = 62 ∨ c = 61) → V_X12_signToken Q 198 [.ref 104, .null, .null, .null] [] ρ (u2 (u2 f 104 9 c) 104 7 ((p : Int) + 1)) g := by
    intro hc
    have go : ∀ x : Int, x = (sgnT (f 105) s p).2.2.1 → Q none ρ (u2 (u2 (u2 f 104 9 c) 104 7 ((p : Int) + 1)) 104 8 x) g := by
      intro x hx
      rw [← hQ]
      refine ⟨rfl, rfl, fin _ (fun b j q => by rw [u2_o (by omega), u2_o (by omega), u2_o (by omega)]) ?_ (by rw [u2_s, hx]) ?_, rfl⟩
      · rw [u2_o (by omega), u2_s]
        rw [esg]
        simp only [sgnC]
        rw [if_neg (fun h => hc h.1)]
        rfl
      · rw [u2_o (by omega), u2_o (by omega), u2_s]
        rw [esg]
        simp only [sgnC]
        rw [if_neg (by omega), if_neg (by omega), if_neg (by omega)]
    have b1 : V_X12_signToken Q 270 [.ref 104, .null, .null, .null] [] ρ (u2 (u2 f 104 9 c) 104 7 ((p : Int) + 1)) g ∨ ¬ (c = 59 ∨ c = 40 ∨ c = 41 ∨ c = 43 ∨ c = 45 ∨ c = 42 ∨ c = 47 ∨ c = 37) := by
      by_cases q : c = 59 ∨ c = 40 ∨ c = 41 ∨ c = 43 ∨ c = 45 ∨ c = 42 ∨ c = 47 ∨ c = 37
      · left
        refine V_iconst dX12_signToken_270 ?_
        refine V_goto (tgt := 275) dX12_signToken_271 rfl ?_
        refine V_is1n dX12_signToken_275 (by decide) rfl ?_
        refine V_al0n dX12_signToken_276 ?_
        refine V_il1n dX12_signToken_277 ?_
        refine V_if_eq (tgt := 285) dX12_signToken_278 rfl (by unfold ri; decide) (fun b278 => by exfalso; revert b278; decide) (fun b278 => ?_)
        refine V_iconst dX12_signToken_281 ?_
        refine V_goto (tgt := 287) dX12_signToken_282 rfl ?_
        refine V_putI kk104 (by decide) fl_X12_172 rfl dX12_signToken_287 ?_
        exact V_return rfl (go _ (by rw [esg]; simp only [sgnC]; rw [if_neg hc, if_pos q])) dX12_signToken_290
      · right; exact q
    refine V_al0n dX12_signToken_198 ?_
    refine V_getI kk104 (by decide) fl_X12_183 (u2_n (by decide) u2_s) dX12_signToken_199 ?_
    refine V_bipush dX12_signToken_202 rfl ?_
    refine V_icmp_eq (tgt := 270) dX12_signToken_204 rfl (by first | assumption | (unfold ri at *; omega)) (by first | assumption | (unfold ri at *; omega)) (fun b204 => ?_) (fun b204 => ?_)
    · rcases b1 with b1 | b1; exact b1; exact absurd (by omega) b1
    · refine V_al0n dX12_signToken_207 ?_
      refine V_getI kk104 (by decide) fl_X12_183 (u2_n (by decide) u2_s) dX12_signToken_208 ?_
      refine V_bipush dX12_signToken_211 rfl ?_
      refine V_icmp_eq (tgt := 270) dX12_signToken_213 rfl (by first | assumption | (unfold ri at *; omega)) (by first | assumption | (unfold ri at *; omega)) (fun b213 => ?_) (fun b213 => ?_)
      · rcases b1 with b1 | b1; exact b1; exact absurd (by omega) b1
      · refine V_al0n dX12_signToken_216 ?_
        refine V_getI kk104 (by decide) fl_X12_183 (u2_n (by decide) u2_s) dX12_signToken_217 ?_
        refine V_bipush dX12_signToken_220 rfl ?_
        refine V_icmp_eq (tgt := 270) dX12_signToken_222 rfl (by first | assumption | (unfold ri at *; omega)) (by first | assumption | (unfold ri at *; omega)) (fun b222 => ?_) (fun b222 => ?_)
        · rcases b1 with b1 | b1; exact b1; exact absurd (by omega) b1
        · refine V_al0n dX12_signToken_225 ?_
          refine V_getI kk104 (by decide) fl_X12_183 (u2_n (by decide) u2_s) dX12_signToken_226 ?_
          refine V_bipush dX12_signToken_229 rfl ?_
          refine V_icmp_eq (tgt := 270) dX12_signToken_231 rfl (by first | assumption | (unfold ri at *; omega)) (by first | assumption | (unfold ri at *; omega)) (fun b231 => ?_) (fun b231 => ?_)
          · rcases b1 with b1 | b1; exact b1; exact absurd (by omega) b1
          · refine V_al0n dX12_signToken_234 ?_
            refine V_getI kk104 (by decide) fl_X12_183 (u2_n (by decide) u2_s) dX12_signToken_235 ?_
            refine V_bipush dX12_signToken_238 rfl ?_
            refine V_icmp_eq (tgt := 270) dX12_signToken_240 rfl (by first | assumption | (unfold ri at *; omega)) (by first | assumption | (unfold ri at *; omega)) (fun b240 => ?_) (fun b240 => ?_)
            · rcases b1 with b1 | b1; exact b1; exact absurd (by omega) b1
            · refine V_al0n dX12_signToken_243 ?_
              refine V_getI kk104 (by decide) fl_X12_183 (u2_n (by decide) u2_s) dX12_signToken_244 ?_
              refine V_bipush dX12_signToken_247 rfl ?_
              refine V_icmp_eq (tgt := 270) dX12_signToken_249 rfl (by first | assumption | (unfold ri at *; omega)) (by first | assumption | (unfold ri at *; omega)) (fun b249 => ?_) (fun b249 => ?_)
              · rcases b1 with b1 | b1; exact b1; exact absurd (by omega) b1
              · refine V_al0n dX12_signToken_252 ?_
                refine V_getI kk104 (by decide) fl_X12_183 (u2_n (by decide) u2_s) dX12_signToken_253 ?_
                refine V_bipush dX12_signToken_256 rfl ?_
                refine V_icmp_eq (tgt := 270) dX12_signToken_258 rfl (by first | assumption | (unfold ri at *; omega)) (by first | assumption | (unfold ri at *; omega)) (fun b258 => ?_) (fun b258 => ?_)
                · rcases b1 with b1 | b1; exact b1; exact absurd (by omega) b1
                · refine V_al0n dX12_signToken_261 ?_
                  refine V_getI kk104 (by decide) fl_X12_183 (u2_n (by decide) u2_s) dX12_signToken_262 ?_
                  refine V_bipush dX12_signToken_265 rfl ?_
                  refine V_icmp_ne (tgt := 274) dX12_signToken_267 rfl (by first | assumption | (unfold ri at *; omega)) (by first | assumption | (unfold ri at *; omega)) (fun b267 => ?_) (fun b267 => ?_)
                  · refine V_iconst dX12_signToken_274 ?_
                    refine V_is1n dX12_signToken_275 (by decide) rfl ?_
                    refine V_al0n dX12_signToken_276 ?_
                    refine V_il1n dX12_signToken_277 ?_
                    refine V_if_eq (tgt := 285) dX12_signToken_278 rfl (by unfold ri; decide) (fun b278 => ?_) (fun b278 => by exfalso; revert b278; decide)
                    refine V_bipush dX12_signToken_285 rfl ?_
                    refine V_putI kk104 (by decide) fl_X12_172 rfl dX12_signToken_287 ?_
                    exact V_return rfl (go _ (by rw [esg]; simp only [sgnC]; rw [if_neg hc, if_neg (by omega)])) dX12_signToken_290
                  · rcases b1 with b1 | b1; exact b1; exact absurd (by omega) b1
  refine Ct.ofV (by decide) rfl (Nat.le_of_ble_eq_true rfl) ?_
  refine V_al0n dX12_signToken_0 ?_
  refine V_al0n dX12_signToken_1 ?_
  refine V_getR kk104 (by decide) fl_X12_7 (fx_104_0 hρ) dX12_signToken_2 ?_
  refine V_al0n dX12_signToken_5 ?_
  refine V_getI kk104 (by decide) fl_X12_169 h7 dX12_signToken_6 ?_
  refine V_iald (k := p) kk105 (by decide) (by first | rfl | omega) (by omega) (by first | decide | assumption | omega) ec dX12_signToken_9 ?_
  refine V_putI kk104 (by decide) fl_X12_183 rfl dX12_signToken_10 ?_
  refine V_al0n dX12_signToken_13 ?_
  refine V_dup dX12_signToken_14 rfl ?_
  refine V_getI kk104 (by decide) fl_X12_169 (u2_n (by decide) h7) dX12_signToken_15 ?_
  refine V_iconst dX12_signToken_18 ?_
  refine V_iadd dX12_signToken_19 ?_
  refine V_putI kk104 (by decide) fl_X12_169 rfl dX12_signToken_20 ?_
  refine V_al0n dX12_signToken_23 ?_
  refine V_getI kk104 (by decide) fl_X12_183 (u2_n (by decide) u2_s) dX12_signToken_24 ?_
  refine V_bipush dX12_signToken_27 rfl ?_
  refine V_icmp_eq (tgt := 50) dX12_signToken_29 rfl (by first | assumption | (unfold ri at *; omega)) (by first | assumption | (unfold ri at *; omega)) (fun b29 => ?_) (fun b29 => ?_)
  · exact k50 (by omega)
  · refine V_al0n dX12_signToken_32 ?_
    refine V_getI kk104 (by decide) fl_X12_183 (u2_n (by decide) u2_s) dX12_signToken_33 ?_
    refine V_bipush dX12_signToken_36 rfl ?_
    refine V_icmp_eq (tgt := 50) dX12_signToken_38 rfl (by first | assumption | (unfold ri at *; omega)) (by first | assumption | (unfold ri at *; omega)) (fun b38 => ?_) (fun b38 => ?_)
    · exact k50 (by omega)
    · refine V_al0n dX12_signToken_41 ?_
      refine V_getI kk104 (by decide) fl_X12_183 (u2_n (by decide) u2_s) dX12_signToken_42 ?_
      refine V_bipush dX12_signToken_45 rfl ?_
      refine V_icmp_ne (tgt := 198) dX12_signToken_47 rfl (by first | assumption | (unfold ri at *; omega)) (by first | assumption | (unfold ri at *; omega)) (fun b47 => ?_) (fun b47 => ?_)
      · exact k198 (by omega)
      · exact k50 (by omega)

