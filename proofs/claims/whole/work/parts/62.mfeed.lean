/-! a text read whole, and feed -/
def lnsR : Nat → Nat → IT → Option Nat × IT
  | 0, _, f => (none, f)
  | k + 1, l, f => if f 104 8 = 0 then (some l, f) else if (lnF f).1 = true then lnsR k (l + 1) (lnF f).2 else (none, (lnF f).2)
def tx0 (n : Int) (f : IT) : IT := tkF (plnF (u2 (u2 (u2 (u2 (u2 (u2 f 104 2 0) 104 6 n) 104 1 0) 104 4 0) 104 5 (-1)) 104 7 0))
def txR (n : Int) (f : IT) : Option Nat × IT := lnsR (mu (tx0 n f) + 1) 0 (tx0 n f)
def txO (n : Int) (f : IT) : Bool := decide (0 ≤ n ∧ n ≤ f 104 1)
def txA (n : Int) (f : IT) : Int := if txO n f = true then (match (txR n f).1 with | none => -1 | some l => (l : Int)) else -2
def txF (n : Int) (f : IT) : IT := if txO n f = true then (match (txR n f).1 with | none => (txR n f).2 | some _ => kpF (txR n f).2) else u2 f 104 2 0
def txG (n : Int) (f : IT) (g : JT) : JT := if txO n f = true then (match (txR n f).1 with | none => g | some _ => kpG (txR n f).2 g) else g
theorem w_tx55 {Q : QT} {ρ : RT} {g : JT} (hρ : Fx ρ) {n : Int} {R : Option Nat × IT} (hQ1 : R.1 = none → Q (some (.int (iz (-1)))) ρ R.2 g) (hQ2 : ∀ l, R.1 = some l → Q (some (.int (iz (l : Int)))) ρ (kpF R.2) (kpG R.2 g)) (k l : Nat) (f : IT) (h : Good f) (H : RD f) (hk : mu f < k) (hR : R = lnsR k l f) :
    V_X12_text Q 55 [.ref 104, .int (iz n), .int (iz (l : Int))] [] ρ f g := by
  obtain ⟨m, rfl⟩ : ∃ m, k = m + 1 := ⟨k - 1, by omega⟩
  rw [lnsR] at hR
  have h8 := h.1.r8
  by_cases e : f 104 8 = 0
  · rw [if_pos e] at hR
    subst hR
    refine V_al0n dX12_text_55 ?_
    refine V_getI kk104 (by decide) fl_X12_172 rfl dX12_text_56 ?_
    refine V_if_eq (tgt := 77) dX12_text_59 rfl (by exact h8.1) (fun b59 => ?_) (fun b59 => ?_)
    · refine V_al0n dX12_text_77 ?_
      refine V_callV (as := []) ml_X12_151 im_X12_keepText se_X12_keepText kk104 (by decide) (by decide) dX12_text_78 rfl rfl (by decide) (by decide) (Nat.le_of_ble_eq_true rfl) (by decide) (by decide) rfl (c_keepText hρ h.2.2.1 (by unfold ri; have := H.2.2.2.2.2.2.2; omega)) ?_
      refine pq4 ?_
      refine V_il2n dX12_text_81 ?_
      exact V_ireturn rfl (hQ2 l rfl) dX12_text_82
    · exfalso; omega
  · rw [if_neg e] at hR
    have hok := lnF_ok h H
    refine V_al0n dX12_text_55 ?_
    refine V_getI kk104 (by decide) fl_X12_172 rfl dX12_text_56 ?_
    refine V_if_eq (tgt := 77) dX12_text_59 rfl (by exact h8.1) (fun b59 => ?_) (fun b59 => ?_)
    · exfalso; omega
    · refine V_al0n dX12_text_62 ?_
      refine V_callV (as := []) ml_X12_337 im_X12_lineRead se_X12_lineRead kk104 (by decide) (by decide) dX12_text_63 rfl rfl (by decide) (by decide) (Nat.le_of_ble_eq_true rfl) (by decide) (by decide) rfl (c_lineRead hρ h H) ?_
      refine pq4 ?_
      refine V_bf (tgt := 71) dX12_text_66 rfl (fun b66 => ?_) (fun b66 => ?_)
      · refine V_inc2 dX12_text_71 (by decide) rfl ?_
        refine V_goto (tgt := 55) dX12_text_74 rfl ?_
        rw [if_pos b66] at hR
        have := lnF_mu h H b66
        exact w_tx55 hρ hQ1 hQ2 m (l + 1) _ hok.1 (hok.2 b66) (by omega) hR
      · refine V_iconst dX12_text_69 ?_
        exact V_ireturn rfl (by rw [if_neg (by rw [b66]; exact Bool.false_ne_true)] at hR; subst hR; exact hQ1 rfl) dX12_text_70
termination_by k
theorem c127 {f : IT} {i a k : Nat} (h : a ≠ 127) : clL f i a k = f a k := by unfold clL; rw [if_neg (by omega)]
/-- the tape, and the rows, between two calls -/
def TxK (f : IT) : Prop := (0 ≤ f 104 1 ∧ f 104 1 ≤ 700) ∧ (∀ k, k < 700 → 0 ≤ f 105 k ∧ f 105 k ≤ 255) ∧ (∀ k, k < 143 → f 106 k = WRD k) ∧ KwK f ∧ (∀ k, ri (f 107 k) ∧ ri (f 112 k) ∧ ri (f 116 k) ∧ ri (f 120 k) ∧ ri (f 124 k)) ∧ (∀ k, (f 110 k = 0 ∨ f 110 k = 1) ∧ (f 111 k = 0 ∨ f 111 k = 1) ∧ (f 127 k = 0 ∨ f 127 k = 1))
def tx00 (n : Int) (f : IT) : IT := plnF (u2 (u2 (u2 (u2 (u2 (u2 f 104 2 0) 104 6 n) 104 1 0) 104 4 0) 104 5 (-1)) 104 7 0)
theorem tx00_r {n : Int} {f : IT} {a k : Nat} (h : a ≠ 104) (h2 : ¬ (a = 127 ∧ 8 ≤ k ∧ k < 16)) : tx00 n f a k = f a k := by
  unfold tx00 plnF clL
  rw [if_neg h2]
  (repeat rw [u2_o (by omega)])
theorem tx00_ok {n : Int} {f : IT} (hK : TxK f) (hn : 0 ≤ n ∧ n ≤ f 104 1) : Good (tx00 n f) ∧ RD (tx00 n f) := by
  obtain ⟨k1, k2, k3, k4, k5, k6⟩ := hK
  have v : ∀ k, tx00 n f 104 k = if k = 29 then 0 else if k = 28 then 0 else if k = 27 then 0 else if k = 26 then 8 else if k = 61 then 0 else if k = 25 then 0 else if k = 24 then 0 else if k = 23 then 0 else if k = 22 then 0 else if k = 21 then 0 else if k = 20 then 0 else if k = 7 then 0 else if k = 5 then -1 else if k = 4 then 0 else if k = 1 then 0 else if k = 6 then n else if k = 2 then 0 else f 104 k := fun k => by
    unfold tx00 plnF
    rw [c127 (by omega)]
    simp only [u2, true_and]
  have r : ∀ a k, a ≠ 104 → a ≠ 127 → tx00 n f a k = f a k := fun a k h1 h2 => tx00_r h1 (by omega)
  have v127 : ∀ k, tx00 n f 127 k = 0 ∨ tx00 n f 127 k = 1 := fun k => by
    by_cases e : 8 ≤ k ∧ k < 16
    · left; unfold tx00 plnF clL; rw [if_pos ⟨rfl, e⟩]
    · rw [tx00_r (by omega) (by omega)]; exact (k6 k).2.2
  have w127 : ∀ w, w < 8 → tx00 n f 127 (8 + w) = 0 := fun w hw => by unfold tx00 plnF clL; rw [if_pos (by omega)]
  have v6 := v 6
  have v7 := v 7
  have v8 := v 8
  have v9 := v 9
  have v20 := v 20
  have v21 := v 21
  have v22 := v 22
  have v23 := v 23
  have v24 := v 24
  have v25 := v 25
  have v26 := v 26
  have v27 := v 27
  have v28 := v 28
  have v29 := v 29
  have v61 := v 61
  simp at v6 v7 v8 v9 v20 v21 v22 v23 v24 v25 v26 v27 v28 v29 v61
  generalize tx00 n f = F at *
  refine ⟨⟨⟨⟨by omega, by omega, fun k hk => by rw [r 105 k (by omega) (by omega)]; exact k2 k hk, fun k hk => by rw [r 106 k (by omega) (by omega)]; exact k3 k hk⟩, by unfold KwK; rw [v8, v9]; exact k4⟩, ⟨fun k => ?_, fun k => ?_, by omega, by omega, by omega, by omega, by omega, by omega, by omega⟩⟩, ?_⟩
  · rw [r 107 k (by omega) (by omega), r 112 k (by omega) (by omega), r 116 k (by omega) (by omega), r 120 k (by omega) (by omega), r 124 k (by omega) (by omega)]; exact k5 k
  · rw [r 110 k (by omega) (by omega), r 111 k (by omega) (by omega)]; exact ⟨(k6 k).1, (k6 k).2.1, v127 k⟩
  · unfold RD
    rw [v20, v21, v22, v23, v24, v26, v27]
    refine ⟨fun k hk => by simp at hk, fun k hk => by simp at hk, fun k hk => by simp at hk, fun k hk => by simp at hk, fun k hk => by simp at hk, ⟨by omega, by omega, fun w hw ht => by rw [w127 w hw] at ht; omega⟩, by omega, by omega⟩
theorem c_mtext {ρ : RT} {f : IT} {g : JT} (hρ : Fx ρ) (hK : TxK f) {n : Int} (rn_ : ri n) : C_X12_text [.ref 104, .int (iz n)] ρ f g (fun r ρ' f' g' => r = some (.int (iz (txA n f))) ∧ ρ' = ρ ∧ f' = txF n f ∧ g' = txG n f g) := by
  have k1 := hK.1
  refine Ct.ofV (by decide) rfl (Nat.le_of_ble_eq_true rfl) ?_
  have X : ¬ (0 ≤ n ∧ n ≤ f 104 1) → V_X12_text (fun r ρ' f' g' => r = some (.int (iz (txA n f))) ∧ ρ' = ρ ∧ f' = txF n f ∧ g' = txG n f g) 17 [.ref 104, .int (iz n), .null] [] ρ (u2 f 104 2 0) g := fun hx => by
    have e : txO n f = false := by unfold txO; simpa using hx
    unfold txA txF txG
    rw [e]
    simp only [Bool.false_eq_true, if_false]
    refine V_bipush dX12_text_17 rfl ?_
    exact V_ireturn rfl ⟨rfl, rfl, rfl, rfl⟩ dX12_text_19
  have Y : (0 ≤ n ∧ n ≤ f 104 1) → V_X12_text (fun r ρ' f' g' => r = some (.int (iz (txA n f))) ∧ ρ' = ρ ∧ f' = txF n f ∧ g' = txG n f g) 20 [.ref 104, .int (iz n), .null] [] ρ (u2 f 104 2 0) g := fun hx => by
    have e : txO n f = true := by unfold txO; simpa using hx
    unfold txA txF txG
    rw [e]
    simp only [if_true]
    have hok := tx00_ok hK hx
    refine V_al0n dX12_text_20 ?_
    refine V_il1n dX12_text_21 ?_
    refine V_putI kk104 (by decide) fl_X12_166 rfl dX12_text_22 ?_
    refine V_al0n dX12_text_25 ?_
    refine V_iconst dX12_text_26 ?_
    refine V_putI kk104 (by decide) fl_X12_157 rfl dX12_text_27 ?_
    refine V_al0n dX12_text_30 ?_
    refine V_iconst dX12_text_31 ?_
    refine V_putI kk104 (by decide) fl_X12_160 rfl dX12_text_32 ?_
    refine V_al0n dX12_text_35 ?_
    refine V_iconst dX12_text_36 ?_
    refine V_putI kk104 (by decide) fl_X12_16 rfl dX12_text_37 ?_
    refine V_al0n dX12_text_40 ?_
    refine V_iconst dX12_text_41 ?_
    refine V_putI kk104 (by decide) fl_X12_169 rfl dX12_text_42 ?_
    refine V_al0n dX12_text_45 ?_
    refine V_callV (as := []) ml_X12_148 im_X12_plain se_X12_plain kk104 (by decide) (by decide) dX12_text_46 rfl rfl (by decide) (by decide) (Nat.le_of_ble_eq_true rfl) (by decide) (by decide) rfl (c_plain hρ) ?_
    refine pq4 ?_
    refine V_al0n dX12_text_49 ?_
    refine V_callV (as := []) ml_X12_206 im_X12_token se_X12_token kk104 (by decide) (by decide) dX12_text_50 rfl rfl (by decide) (by decide) (Nat.le_of_ble_eq_true rfl) (by decide) (by decide) rfl (c_tok (f := tx00 n f) hρ hok.1.1) ?_
    refine pq4 ?_
    refine V_iconst dX12_text_53 ?_
    refine V_is2n dX12_text_54 (by decide) rfl ?_
    exact w_tx55 hρ (R := txR n f) (fun h => by rw [h]; exact ⟨rfl, rfl, rfl, rfl⟩) (fun l h => by rw [h]; exact ⟨rfl, rfl, rfl, rfl⟩) (mu (tx0 n f) + 1) 0 (tx0 n f) hok.1.tk hok.2.tk (by omega) rfl
  refine V_al0n dX12_text_0 ?_
  refine V_iconst dX12_text_1 ?_
  refine V_putI kk104 (by decide) fl_X12_154 rfl dX12_text_2 ?_
  refine V_il1n dX12_text_5 ?_
  refine V_if_lt (tgt := 17) dX12_text_6 rfl (by first | assumption | (unfold ri at *; omega)) (fun b6 => ?_) (fun b6 => ?_)
  · exact X (by omega)
  · refine V_il1n dX12_text_9 ?_
    refine V_al0n dX12_text_10 ?_
    refine V_getI kk104 (by decide) fl_X12_157 (u2_n (by decide) rfl) dX12_text_11 ?_
    refine V_icmp_le (tgt := 20) dX12_text_14 rfl (by first | assumption | (unfold ri; omega)) (by first | assumption | (unfold ri; omega)) (fun b14 => ?_) (fun b14 => ?_)
    · exact Y (by omega)
    · exact X (by omega)
/-! feed -/
def byt (w : Int) (j : Nat) : Int := w / 2 ^ (24 - 8 * j) % 256
def fdw (a b c d e : Int) (i : Nat) : Int := if i = 0 then a else if i = 1 then b else if i = 2 then c else if i = 3 then d else e
def fdR (a b c d e : Int) (s i : Nat) (r : Nat) (f : IT) : IT := fun x k => if x = r ∧ s ≤ k ∧ k < s + i then byt (fdw a b c d e ((k - s) / 4)) ((k - s) % 4) else f x k
theorem fdR_0 {a b c d e : Int} {s r : Nat} {f : IT} : fdR a b c d e s 0 r f = f := by funext x k; unfold fdR; rw [if_neg (by omega)]
theorem fdR_s {a b c d e : Int} {s i r : Nat} {f : IT} {v : Int} (hv : v = byt (fdw a b c d e (i / 4)) (i % 4)) : u2 (fdR a b c d e s i r f) r (s + i) v = fdR a b c d e s (i + 1) r f := by
  funext x k
  unfold u2 fdR
  by_cases h : x = r ∧ k = s + i
  · rw [if_pos h, if_pos (by omega), hv, show k - s = i by omega]
  · rw [if_neg h]
    by_cases h2 : x = r ∧ s ≤ k ∧ k < s + i
    · rw [if_pos h2, if_pos (by omega)]
    · rw [if_neg h2, if_neg (by omega)]

