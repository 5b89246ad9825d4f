/-! the tape's bytes as tokens, as the reference reads them -/
def wrdL : List Int := [108, 97, 110, 101, 32, 109, 97, 110, 32, 104, 111, 108, 100, 32, 112, 108, 97, 110, 32, 106, 117, 100, 103, 101, 32, 108, 111, 97, 100, 32, 115, 101, 101, 100, 32, 108, 97, 119, 32, 98, 101, 110, 100, 32, 119, 101, 116, 32, 116, 105, 109, 101, 32, 99, 111, 115, 116, 32, 97, 99, 104, 101, 32, 103, 97, 105, 110, 32, 116, 105, 114, 101, 32, 104, 97, 114, 109, 32, 106, 97, 109, 32, 119, 105, 100, 101, 32, 97, 110, 100, 32, 111, 114, 32, 110, 111, 116, 32, 112, 97, 99, 101, 32, 115, 108, 111, 112, 101, 32, 104, 101, 97, 118, 121, 32, 119, 101, 105, 103, 104, 116, 32, 119, 105, 110, 100, 32, 108, 101, 103, 115, 32, 100, 97, 109, 112, 32, 99, 117, 114, 118, 101, 32]
def offL : List Nat := [0, 5, 9, 14, 19, 25, 30, 35, 39, 44, 48, 53, 58, 63, 68, 73, 78, 82, 87, 91, 94, 98, 103, 109, 115, 122, 127, 132, 137, 143]
def lenL : List Nat := [4, 3, 4, 4, 5, 4, 4, 3, 4, 3, 4, 4, 4, 4, 4, 4, 3, 4, 3, 2, 3, 4, 5, 5, 6, 4, 4, 4, 5]
def mwL : List Int := [404165632, 437714944, 284561408, 549500928, 357702816, 418418688, 642945024, 404455424, 72814592, 777650176, 680956928, 117035008, 36967424, 236238848, 681120768, 270087168, 337018880, 781325312, 48365568, 522190848, 486146048, 538022912, 650625184, 273734432, 777297172, 781651968, 408144896, 135708672, 123295904]
def WRD (k : Nat) : Int := wrdL.getD k 0
def OFF (k : Nat) : Nat := offL.getD k 0
def LEN (k : Nat) : Nat := lenL.getD k 0
def MWf (k : Nat) : Int := mwL.getD k 0
def WDG (k i : Nat) : Int := if i < LEN k then WRD (OFF k + i) - 96 else 0
def pk6 (d : Nat → Int) : Int := ((((d 0 * 32 + d 1) * 32 + d 2) * 32 + d 3) * 32 + d 4) * 32 + d 5
set_option maxRecDepth 100000 in
theorem W_len : ∀ k : Nat, k < 29 → 2 ≤ LEN k ∧ LEN k ≤ 6 ∧ OFF k + LEN k < 143 ∧ OFF (k + 1) = OFF k + LEN k + 1 ∧ WRD (OFF k + LEN k) = 32 ∧ MWf k = pk6 (WDG k) := by decide +kernel
set_option maxRecDepth 100000 in
theorem W_let : ∀ k : Nat, k < 29 → ∀ i : Nat, i < LEN k → 97 ≤ WRD (OFF k + i) ∧ WRD (OFF k + i) ≤ 122 := by decide +kernel
def isW (c : Int) : Bool := decide (c = 10 ∨ c = 32)
def isL (c : Int) : Bool := decide (97 ≤ c ∧ c ≤ 122)
def isG (c : Int) : Bool := decide (48 ≤ c ∧ c ≤ 57)
/-- where such bytes end -/
def run1 (P : Int → Bool) (tp : Nat → Int) : Nat → Nat → Nat
  | 0, p => p
  | n + 1, p => if P (tp p) = true then run1 P tp n (p + 1) else p
theorem run1_le {P : Int → Bool} {tp : Nat → Int} : ∀ n p, p ≤ run1 P tp n p ∧ run1 P tp n p ≤ p + n
  | 0, p => by simp [run1]
  | n + 1, p => by
    unfold run1
    split
    · have := run1_le (P := P) (tp := tp) n (p + 1); omega
    · omega
theorem run1_in {P : Int → Bool} {tp : Nat → Int} : ∀ n p i, p ≤ i → i < run1 P tp n p → P (tp i) = true
  | 0, p, i, h1, h2 => by simp [run1] at h2; omega
  | n + 1, p, i, h1, h2 => by
    unfold run1 at h2
    split at h2
    · rename_i hp
      by_cases e : i = p
      · rw [e]; exact hp
      · exact run1_in n (p + 1) i (by omega) h2
    · omega
theorem run1_end {P : Int → Bool} {tp : Nat → Int} : ∀ n p, run1 P tp n p < p + n → P (tp (run1 P tp n p)) = false
  | 0, p, h => by simp [run1] at h
  | n + 1, p, h => by
    unfold run1 at h ⊢
    split
    · rename_i hp
      rw [if_pos hp] at h
      exact run1_end n (p + 1) (by omega)
    · rename_i hp
      exact Bool.eq_false_iff.mpr hp
def dgt (tp : Nat → Int) (a b i : Nat) : Int := if a + i < b then tp (a + i) - 96 else 0
/-- a word's letters as one number -/
def pkd (tp : Nat → Int) (a b : Nat) : Int := pk6 (dgt tp a b)
theorem dig32 {a b d e : Int} (h : a * 32 + d = b * 32 + e) (hd : 0 ≤ d ∧ d < 32) (he : 0 ≤ e ∧ e < 32) : a = b ∧ d = e := by omega
theorem pk6_inj {d e : Nat → Int} (hd : ∀ i, i < 6 → 0 ≤ d i ∧ d i < 32) (he : ∀ i, i < 6 → 0 ≤ e i ∧ e i < 32) (h : pk6 d = pk6 e) : ∀ i, i < 6 → d i = e i := by
  unfold pk6 at h
  obtain ⟨h4, q5⟩ := dig32 h (hd 5 (by omega)) (he 5 (by omega))
  obtain ⟨h3, q4⟩ := dig32 h4 (hd 4 (by omega)) (he 4 (by omega))
  obtain ⟨h2, q3⟩ := dig32 h3 (hd 3 (by omega)) (he 3 (by omega))
  obtain ⟨h1, q2⟩ := dig32 h2 (hd 2 (by omega)) (he 2 (by omega))
  obtain ⟨q0, q1⟩ := dig32 h1 (hd 1 (by omega)) (he 1 (by omega))
  intro i hi
  rcases (show i = 0 ∨ i = 1 ∨ i = 2 ∨ i = 3 ∨ i = 4 ∨ i = 5 by omega) with rfl | rfl | rfl | rfl | rfl | rfl <;> assumption
theorem pk6_cg {d e : Nat → Int} (h : ∀ i, i < 6 → d i = e i) : pk6 d = pk6 e := by
  unfold pk6
  rw [h 0 (by omega), h 1 (by omega), h 2 (by omega), h 3 (by omega), h 4 (by omega), h 5 (by omega)]
/-- a word of the language, or one that isn't -/
theorem word_is {tp : Nat → Int} {a b k : Nat} (hk : k < 29) (hab : a < b) (hl : ∀ i, a ≤ i → i < b → 97 ≤ tp i ∧ tp i ≤ 122) : (b - a = LEN k ∧ ∀ i, i < LEN k → WRD (OFF k + i) = tp (a + i)) ↔ (b - a ≤ 6 ∧ pkd tp a b = MWf k) := by
  obtain ⟨w1, w2, w3, w4, w5, w6⟩ := W_len k hk
  have wl := W_let k hk
  rw [w6]
  constructor
  · rintro ⟨h1, h2⟩
    refine ⟨by omega, pk6_cg (fun i hi => ?_)⟩
    unfold dgt WDG
    by_cases e : i < LEN k
    · rw [if_pos (by omega), if_pos e, h2 i e]
    · rw [if_neg (by omega), if_neg e]
  · rintro ⟨h1, h2⟩
    have hd : ∀ i, i < 6 → 0 ≤ dgt tp a b i ∧ dgt tp a b i < 32 := fun i hi => by
      unfold dgt
      split
      · have := hl (a + i) (by omega) (by omega); omega
      · omega
    have he : ∀ i, i < 6 → 0 ≤ WDG k i ∧ WDG k i < 32 := fun i hi => by
      unfold WDG
      split
      · have := wl i (by omega); omega
      · omega
    have key := pk6_inj hd he h2
    have hlen : b - a = LEN k := by
      by_cases c1 : b - a < LEN k
      · have := key (b - a) (by omega)
        unfold dgt WDG at this
        rw [if_neg (by omega), if_pos c1] at this
        have := wl (b - a) c1
        omega
      · by_cases c2 : LEN k < b - a
        · have := key (LEN k) (by omega)
          unfold dgt WDG at this
          rw [if_pos (by omega), if_neg (by omega)] at this
          have := hl (a + LEN k) (by omega) (by omega)
          omega
        · omega
    refine ⟨hlen, fun i hi => ?_⟩
    have := key i (by omega)
    unfold dgt WDG at this
    rw [if_pos (by omega), if_pos hi] at this
    omega
def wIdx (tp : Nat → Int) (a b : Nat) : Int := if b - a ≤ 6 then fnd MWf 0 29 (pkd tp a b) else -1
theorem c_wrong {ρ : RT} {f : IT} {g : JT} {w : Int} : C_X12_wrong [.ref 104, .int (iz w)] ρ f g (fun r ρ' f' g' => r = some (.int (iz (bz false))) ∧ ρ' = ρ ∧ f' = u2 (u2 f 104 4 w) 104 5 (f 104 10) ∧ g' = g) := by
  refine Ct.ofV (by decide) rfl (Nat.le_of_ble_eq_true rfl) ?_
  refine V_al0n dX12_wrong_0 ?_
  refine V_il1n dX12_wrong_1 ?_
  refine V_putI kk104 (by decide) fl_X12_160 rfl dX12_wrong_2 ?_
  refine V_al0n dX12_wrong_5 ?_
  refine V_al0n dX12_wrong_6 ?_
  refine V_getI kk104 (by decide) fl_X12_163 (u2_n (by decide) rfl) dX12_wrong_7 ?_
  refine V_putI kk104 (by decide) fl_X12_16 rfl dX12_wrong_10 ?_
  refine V_iconst dX12_wrong_13 ?_
  exact V_zreturn rfl (by first | exact Or.inl rfl | exact Or.inr rfl | (unfold bz; split <;> simp)) ⟨rfl, rfl, rfl, rfl⟩ dX12_wrong_14
theorem c_isSmall {ρ : RT} {f : IT} {g : JT} (hρ : Fx ρ) {p s : Nat} (hs : f 104 6 = (s : Int)) (hs7 : s ≤ 700) (hp : p ≤ s) (ht : ∀ k, k < 700 → 0 ≤ f 105 k ∧ f 105 k ≤ 255) : C_X12_isSmall [.ref 104, .int (iz (p : Int))] ρ f g (fun r ρ' f' g' => r = some (.int (iz (bz (decide (p < s) && isL (f 105 p))))) ∧ ρ' = ρ ∧ f' = f ∧ g' = g) := by
  refine Ct.ofV (by decide) rfl (Nat.le_of_ble_eq_true rfl) ?_
  refine V_il1n dX12_isSmall_0 ?_
  refine V_al0n dX12_isSmall_1 ?_
  refine V_getI kk104 (by decide) fl_X12_166 hs dX12_isSmall_2 ?_
  refine V_icmp_ge (tgt := 34) dX12_isSmall_5 rfl (by first | assumption | (unfold ri at *; omega)) (by first | assumption | (unfold ri at *; omega)) (fun b5 => ?_) (fun b5 => ?_)
  · refine V_iconst dX12_isSmall_34 ?_
    exact V_zreturn rfl (by first | exact Or.inl rfl | exact Or.inr rfl | (unfold bz; split <;> simp)) ⟨by unfold isL bz; congr 3; split <;> (rename_i e; simp at e) <;> first | rfl | (exfalso; omega), rfl, rfl, rfl⟩ dX12_isSmall_35
  · have htp := ht p (by omega)
    refine V_al0n dX12_isSmall_8 ?_
    refine V_getR kk104 (by decide) fl_X12_7 (fx_104_0 hρ) dX12_isSmall_9 ?_
    refine V_il1n dX12_isSmall_12 ?_
    refine V_iald (k := p) kk105 (by decide) (by first | rfl | omega) (by omega) (by first | decide | assumption | omega) rfl dX12_isSmall_13 ?_
    refine V_bipush dX12_isSmall_14 rfl ?_
    refine V_icmp_lt (tgt := 34) dX12_isSmall_16 rfl (by first | assumption | (unfold ri at *; omega)) (by first | assumption | (unfold ri at *; omega)) (fun b16 => ?_) (fun b16 => ?_)
    · refine V_iconst dX12_isSmall_34 ?_
      exact V_zreturn rfl (by first | exact Or.inl rfl | exact Or.inr rfl | (unfold bz; split <;> simp)) ⟨by unfold isL bz; congr 3; split <;> (rename_i e; simp at e) <;> first | rfl | (exfalso; omega), rfl, rfl, rfl⟩ dX12_isSmall_35
    · refine V_al0n dX12_isSmall_19 ?_
      refine V_getR kk104 (by decide) fl_X12_7 (fx_104_0 hρ) dX12_isSmall_20 ?_
      refine V_il1n dX12_isSmall_23 ?_
      refine V_iald (k := p) kk105 (by decide) (by first | rfl | omega) (by omega) (by first | decide | assumption | omega) rfl dX12_isSmall_24 ?_
      refine V_bipush dX12_isSmall_25 rfl ?_
      refine V_icmp_gt (tgt := 34) dX12_isSmall_27 rfl (by first | assumption | (unfold ri at *; omega)) (by first | assumption | (unfold ri at *; omega)) (fun b27 => ?_) (fun b27 => ?_)
      · refine V_iconst dX12_isSmall_34 ?_
        exact V_zreturn rfl (by first | exact Or.inl rfl | exact Or.inr rfl | (unfold bz; split <;> simp)) ⟨by unfold isL bz; congr 3; split <;> (rename_i e; simp at e) <;> first | rfl | (exfalso; omega), rfl, rfl, rfl⟩ dX12_isSmall_35
      · refine V_iconst dX12_isSmall_30 ?_
        refine V_goto (tgt := 35) dX12_isSmall_31 rfl ?_
        exact V_zreturn rfl (by first | exact Or.inl rfl | exact Or.inr rfl | (unfold bz; split <;> simp)) ⟨by unfold isL bz; congr 3; split <;> (rename_i e; simp at e) <;> first | rfl | (exfalso; omega), rfl, rfl, rfl⟩ dX12_isSmall_35
theorem c_isDigit {ρ : RT} {f : IT} {g : JT} (hρ : Fx ρ) {p s : Nat} (hs : f 104 6 = (s : Int)) (hs7 : s ≤ 700) (hp : p ≤ s) (ht : ∀ k, k < 700 → 0 ≤ f 105 k ∧ f 105 k ≤ 255) : C_X12_isDigit [.ref 104, .int (iz (p : Int))] ρ f g (fun r ρ' f' g' => r = some (.int (iz (bz (decide (p < s) && isG (f 105 p))))) ∧ ρ' = ρ ∧ f' = f ∧ g' = g) := by
  refine Ct.ofV (by decide) rfl (Nat.le_of_ble_eq_true rfl) ?_
  refine V_il1n dX12_isDigit_0 ?_
  refine V_al0n dX12_isDigit_1 ?_
  refine V_getI kk104 (by decide) fl_X12_166 hs dX12_isDigit_2 ?_
  refine V_icmp_ge (tgt := 34) dX12_isDigit_5 rfl (by first | assumption | (unfold ri at *; omega)) (by first | assumption | (unfold ri at *; omega)) (fun b5 => ?_) (fun b5 => ?_)
  · refine V_iconst dX12_isDigit_34 ?_
    exact V_zreturn rfl (by first | exact Or.inl rfl | exact Or.inr rfl | (unfold bz; split <;> simp)) ⟨by unfold isG bz; congr 3; split <;> (rename_i e; simp at e) <;> first | rfl | (exfalso; omega), rfl, rfl, rfl⟩ dX12_isDigit_35
  · have htp := ht p (by omega)
    refine V_al0n dX12_isDigit_8 ?_
    refine V_getR kk104 (by decide) fl_X12_7 (fx_104_0 hρ) dX12_isDigit_9 ?_
    refine V_il1n dX12_isDigit_12 ?_
    refine V_iald (k := p) kk105 (by decide) (by first | rfl | omega) (by omega) (by first | decide | assumption | omega) rfl dX12_isDigit_13 ?_
    refine V_bipush dX12_isDigit_14 rfl ?_
    refine V_icmp_lt (tgt := 34) dX12_isDigit_16 rfl (by first | assumption | (unfold ri at *; omega)) (by first | assumption | (unfold ri at *; omega)) (fun b16 => ?_) (fun b16 => ?_)
    · refine V_iconst dX12_isDigit_34 ?_
      exact V_zreturn rfl (by first | exact Or.inl rfl | exact Or.inr rfl | (unfold bz; split <;> simp)) ⟨by unfold isG bz; congr 3; split <;> (rename_i e; simp at e) <;> first | rfl | (exfalso; omega), rfl, rfl, rfl⟩ dX12_isDigit_35
    · refine V_al0n dX12_isDigit_19 ?_
      refine V_getR kk104 (by decide) fl_X12_7 (fx_104_0 hρ) dX12_isDigit_20 ?_
      refine V_il1n dX12_isDigit_23 ?_
      refine V_iald (k := p) kk105 (by decide) (by first | rfl | omega) (by omega) (by first | decide | assumption | omega) rfl dX12_isDigit_24 ?_
      refine V_bipush dX12_isDigit_25 rfl ?_
      refine V_icmp_gt (tgt := 34) dX12_isDigit_27 rfl (by first | assumption | (unfold ri at *; omega)) (by first | assumption | (unfold ri at *; omega)) (fun b27 => ?_) (fun b27 => ?_)
      · refine V_iconst dX12_isDigit_34 ?_
        exact V_zreturn rfl (by first | exact Or.inl rfl | exact Or.inr rfl | (unfold bz; split <;> simp)) ⟨by unfold isG bz; congr 3; split <;> (rename_i e; simp at e) <;> first | rfl | (exfalso; omega), rfl, rfl, rfl⟩ dX12_isDigit_35
      · refine V_iconst dX12_isDigit_30 ?_
        refine V_goto (tgt := 35) dX12_isDigit_31 rfl ?_
        exact V_zreturn rfl (by first | exact Or.inl rfl | exact Or.inr rfl | (unfold bz; split <;> simp)) ⟨by unfold isG bz; congr 3; split <;> (rename_i e; simp at e) <;> first | rfl | (exfalso; omega), rfl, rfl, rfl⟩ dX12_isDigit_35
def keyB (k : Int) (f : IT) : Bool := decide (f 104 8 = 1 ∧ f 104 9 = k)
def sgnB (c : Int) (f : IT) : Bool := decide (f 104 8 = 4 ∧ f 104 9 = c)
theorem c_isKey {ρ : RT} {f : IT} {g : JT} {k : Int} (rk : ri k) (r8 : ri (f 104 8)) (r9 : ri (f 104 9)) : C_X12_isKey [.ref 104, .int (iz k)] ρ f g (fun r ρ' f' g' => r = some (.int (iz (bz (keyB k f)))) ∧ ρ' = ρ ∧ f' = f ∧ g' = g) := by
  refine Ct.ofV (by decide) rfl (Nat.le_of_ble_eq_true rfl) ?_
  refine V_al0n dX12_isKey_0 ?_
  refine V_getI kk104 (by decide) fl_X12_172 rfl dX12_isKey_1 ?_
  refine V_iconst dX12_isKey_4 ?_
  refine V_icmp_ne (tgt := 20) dX12_isKey_5 rfl (by first | assumption | (unfold ri at *; omega)) (by first | assumption | (unfold ri at *; omega)) (fun b5 => ?_) (fun b5 => ?_)
  · refine V_iconst dX12_isKey_20 ?_
    exact V_zreturn rfl (by first | exact Or.inl rfl | exact Or.inr rfl | (unfold bz; split <;> simp)) ⟨by unfold keyB bz; simp [*], rfl, rfl, rfl⟩ dX12_isKey_21
  · refine V_al0n dX12_isKey_8 ?_
    refine V_getI kk104 (by decide) fl_X12_183 rfl dX12_isKey_9 ?_
    refine V_il1n dX12_isKey_12 ?_
    refine V_icmp_ne (tgt := 20) dX12_isKey_13 rfl (by first | assumption | (unfold ri at *; omega)) (by first | assumption | (unfold ri at *; omega)) (fun b13 => ?_) (fun b13 => ?_)
    · refine V_iconst dX12_isKey_20 ?_
      exact V_zreturn rfl (by first | exact Or.inl rfl | exact Or.inr rfl | (unfold bz; split <;> simp)) ⟨by unfold keyB bz; simp [*], rfl, rfl, rfl⟩ dX12_isKey_21
    · refine V_iconst dX12_isKey_16 ?_
      refine V_goto (tgt := 21) dX12_isKey_17 rfl ?_
      exact V_zreturn rfl (by first | exact Or.inl rfl | exact Or.inr rfl | (unfold bz; split <;> simp)) ⟨by unfold keyB bz; simp [*], rfl, rfl, rfl⟩ dX12_isKey_21
theorem c_isSign {ρ : RT} {f : IT} {g : JT} {k : Int} (rk : ri k) (r8 : ri (f 104 8)) (r9 : ri (f 104 9)) : C_X12_isSign [.ref 104, .int (iz k)] ρ f g (fun r ρ' f' g' => r = some (.int (iz (bz (sgnB k f)))) ∧ ρ' = ρ ∧ f' = f ∧ g' = g) := by
  refine Ct.ofV (by decide) rfl (Nat.le_of_ble_eq_true rfl) ?_
  refine V_al0n dX12_isSign_0 ?_
  refine V_getI kk104 (by decide) fl_X12_172 rfl dX12_isSign_1 ?_
  refine V_iconst dX12_isSign_4 ?_
  refine V_icmp_ne (tgt := 20) dX12_isSign_5 rfl (by first | assumption | (unfold ri at *; omega)) (by first | assumption | (unfold ri at *; omega)) (fun b5 => ?_) (fun b5 => ?_)
  · refine V_iconst dX12_isSign_20 ?_
    exact V_zreturn rfl (by first | exact Or.inl rfl | exact Or.inr rfl | (unfold bz; split <;> simp)) ⟨by unfold sgnB bz; simp [*], rfl, rfl, rfl⟩ dX12_isSign_21
  · refine V_al0n dX12_isSign_8 ?_
    refine V_getI kk104 (by decide) fl_X12_183 rfl dX12_isSign_9 ?_
    refine V_il1n dX12_isSign_12 ?_
    refine V_icmp_ne (tgt := 20) dX12_isSign_13 rfl (by first | assumption | (unfold ri at *; omega)) (by first | assumption | (unfold ri at *; omega)) (fun b13 => ?_) (fun b13 => ?_)
    · refine V_iconst dX12_isSign_20 ?_
      exact V_zreturn rfl (by first | exact Or.inl rfl | exact Or.inr rfl | (unfold bz; split <;> simp)) ⟨by unfold sgnB bz; simp [*], rfl, rfl, rfl⟩ dX12_isSign_21
    · refine V_iconst dX12_isSign_16 ?_
      refine V_goto (tgt := 21) dX12_isSign_17 rfl ?_
      exact V_zreturn rfl (by first | exact Or.inl rfl | exact Or.inr rfl | (unfold bz; split <;> simp)) ⟨by unfold sgnB bz; simp [*], rfl, rfl, rfl⟩ dX12_isSign_21
theorem iz_orH {a b : Nat} {k : Nat} (ha : a < 2 ^ k) (hk : a + b * 2 ^ k < 4294967296) : iz ((b : Int) * 2 ^ k) ||| iz (a : Int) = iz ((b : Int) * 2 ^ k + (a : Int)) := by
  have h := iz_orS ha hk
  have e : iz ((b : Int) * 2 ^ k) ||| iz (a : Int) = iz (a : Int) ||| iz ((b : Int) * 2 ^ k) := by rw [iz_or, iz_or, Nat.or_comm]
  rw [e, h, Int.add_comm]
/-- the first letters of it -/
def pkR (d : Nat → Int) : Nat → Int
  | 0 => 0
  | n + 1 => pkR d n * 32 + d n
theorem pkR_rng {d : Nat → Int} (hd : ∀ i, i < 6 → 0 ≤ d i ∧ d i < 32) : ∀ n, n ≤ 6 → 0 ≤ pkR d n ∧ pkR d n < 32 ^ n
  | 0, _ => by simp [pkR]
  | n + 1, h => by
    have h1 := pkR_rng hd n (by omega)
    have h2 := hd n (by omega)
    simp only [pkR, Int.pow_succ]
    generalize (32 : Int) ^ n = P at *
    omega
theorem pkR6 {d : Nat → Int} : pkR d 6 = pk6 d := by simp [pkR, pk6]
theorem w_packed {Q : QT} {ρ : RT} {f : IT} {g : JT} (hρ : Fx ρ) {a b : Nat} (hab : a ≤ b ∧ b ≤ 700) (hl : ∀ i, a ≤ i → i < b → 97 ≤ f 105 i ∧ f 105 i ≤ 122) (hQ : Q (some (.int (iz (pkd (f 105) a b)))) ρ f g) (i : Nat) (hi : i ≤ 6) :
    V_X12_packed Q 5 [.ref 104, .int (iz (a : Int)), .int (iz (b : Int)), .int (iz (pkR (dgt (f 105) a b) i)), .int (iz ((a + i : Nat) : Int))] [] ρ f g := by
  have hd : ∀ i, i < 6 → 0 ≤ dgt (f 105) a b i ∧ dgt (f 105) a b i < 32 := fun i hi => by
    unfold dgt
    split
    · have := hl (a + i) (by omega) (by omega); omega
    · omega
  by_cases e : i = 6
  · subst e
    refine V_il4 dX12_packed_5 ?_
    refine V_il1n dX12_packed_7 ?_
    refine V_bipush dX12_packed_8 rfl ?_
    refine V_iadd dX12_packed_10 ?_
    refine V_icmp_ge (tgt := 45) dX12_packed_11 rfl (by first | assumption | (unfold ri at *; omega)) (by first | assumption | (unfold ri at *; omega)) (fun b11 => ?_) (fun b11 => ?_)
    · refine V_il3n dX12_packed_45 ?_
      exact V_ireturn rfl (by rw [pkR6]; exact hQ) dX12_packed_46
    · exfalso; omega
  · have hx := w_packed hρ hab hl hQ (i + 1) (by omega)
    simp only [pkR] at hx
    have hr := pkR_rng hd i (by omega)
    have hdi := hd i (by omega)
    have hp32 : (32 : Int) ^ i ≤ 33554432 := by rcases (show i = 0 ∨ i = 1 ∨ i = 2 ∨ i = 3 ∨ i = 4 ∨ i = 5 by omega) with q | q | q | q | q | q <;> rw [q] <;> decide
    have hsh : iz (pkR (dgt (f 105) a b) i) <<< (iz 5 &&& 31) = iz (pkR (dgt (f 105) a b) i * 32) := iz_shlE (b := 5) rfl (by omega) rfl
    have hor : iz (pkR (dgt (f 105) a b) i * 32) ||| iz (dgt (f 105) a b i) = iz (pkR (dgt (f 105) a b) i * 32 + dgt (f 105) a b i) := by
      have h := iz_orH (a := (dgt (f 105) a b i).toNat) (b := (pkR (dgt (f 105) a b) i).toNat) (k := 5) (by omega) (by omega)
      rw [Int.toNat_of_nonneg hdi.1, Int.toNat_of_nonneg hr.1] at h
      exact h
    refine V_il4 dX12_packed_5 ?_
    refine V_il1n dX12_packed_7 ?_
    refine V_bipush dX12_packed_8 rfl ?_
    refine V_iadd dX12_packed_10 ?_
    refine V_icmp_ge (tgt := 45) dX12_packed_11 rfl (by first | assumption | (unfold ri at *; omega)) (by first | assumption | (unfold ri at *; omega)) (fun b11 => ?_) (fun b11 => ?_)
    · exfalso; omega
    · refine V_il3n dX12_packed_14 ?_
      refine V_iconst dX12_packed_15 ?_
      refine V_ishl dX12_packed_16 hsh ?_
      refine V_il4 dX12_packed_17 ?_
      refine V_il2n dX12_packed_19 ?_
      refine V_icmp_ge (tgt := 36) dX12_packed_20 rfl (by first | assumption | (unfold ri at *; omega)) (by first | assumption | (unfold ri at *; omega)) (fun b20 => ?_) (fun b20 => ?_)
      · have ed : 0 = dgt (f 105) a b i := by unfold dgt; rw [if_neg (by omega)]
        refine V_iconst dX12_packed_36 ?_
        rw [ed]
        refine V_ior dX12_packed_37 hor ?_
        refine V_is3n dX12_packed_38 (by decide) rfl ?_
        refine V_inc4 dX12_packed_39 (by decide) rfl ?_
        refine V_goto (tgt := 5) dX12_packed_42 rfl ?_
        exact hx
      · have ed : f 105 (a + i) - 96 = dgt (f 105) a b i := by unfold dgt; rw [if_pos (by omega)]
        refine V_al0n dX12_packed_23 ?_
        refine V_getR kk104 (by decide) fl_X12_7 (fx_104_0 hρ) dX12_packed_24 ?_
        refine V_il4 dX12_packed_27 ?_
        refine V_iald (k := a + i) kk105 (by decide) (by first | rfl | omega) (by omega) (by first | decide | assumption | omega) rfl dX12_packed_29 ?_
        refine V_bipush dX12_packed_30 rfl ?_
        refine V_isub dX12_packed_32 ?_
        refine V_goto (tgt := 37) dX12_packed_33 rfl ?_
        rw [ed]
        refine V_ior dX12_packed_37 hor ?_
        refine V_is3n dX12_packed_38 (by decide) rfl ?_
        refine V_inc4 dX12_packed_39 (by decide) rfl ?_
        refine V_goto (tgt := 5) dX12_packed_42 rfl ?_
        exact hx
termination_by 6 - i
theorem c_packed {ρ : RT} {f : IT} {g : JT} (hρ : Fx ρ) {a b : Nat} (hab : a ≤ b ∧ b ≤ 700) (hl : ∀ i, a ≤ i → i < b → 97 ≤ f 105 i ∧ f 105 i ≤ 122) : C_X12_packed [.ref 104, .int (iz (a : Int)), .int (iz (b : Int))] ρ f g (fun r ρ' f' g' => r = some (.int (iz (pkd (f 105) a b))) ∧ ρ' = ρ ∧ f' = f ∧ g' = g) := by
  refine Ct.ofV (by decide) rfl (Nat.le_of_ble_eq_true rfl) ?_
  refine V_iconst dX12_packed_0 ?_
  refine V_is3n dX12_packed_1 (by decide) rfl ?_
  refine V_il1n dX12_packed_2 ?_
  refine V_is4 dX12_packed_3 (by decide) rfl ?_
  exact w_packed hρ hab hl ⟨rfl, rfl, rfl, rfl⟩ 0 (by omega)

