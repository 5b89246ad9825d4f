section CFEED
variable {ρ : RT} {g : JT}
/-- j bytes of a number on the tape from s on -/
def tpF (w : Int) (s j : Nat) (f : IT) : IT := fun a k => if a = 1 ∧ s ≤ k ∧ k < s + j then byt w (k - s) else if a = 0 ∧ k = 1 then (s : Int) + (j : Int) else f a k
theorem tpF_s {w : Int} {s j : Nat} {f : IT} {v : Int} (hv : v = byt w j) : u2 (u2 (tpF w s j f) 1 (s + j) v) 0 1 ((s : Int) + (j : Int) + 1) = tpF w s (j + 1) f := by
  funext a k
  unfold u2 tpF
  by_cases h : a = 0 ∧ k = 1
  · rw [if_pos h, if_neg (by omega), if_pos h]
    omega
  · rw [if_neg h]
    by_cases h2 : a = 1 ∧ k = s + j
    · rw [if_pos h2, if_pos (by omega), hv, show k - s = j by omega]
    · rw [if_neg h2]
      by_cases h3 : a = 1 ∧ s ≤ k ∧ k < s + j
      · rw [if_pos h3, if_pos (by omega)]
      · rw [if_neg h3, if_neg h, if_neg (by omega), if_neg h]
theorem byt_U {w : Int} {j : Nat} (hj : j < 4) : ((U w / 2 ^ (24 - 8 * j) : Nat) : Int) % 256 = byt w j := by
  unfold byt U
  rcases (show j = 0 ∨ j = 1 ∨ j = 2 ∨ j = 3 by omega) with e | e | e | e <;> subst e <;> simp <;> omega
theorem w_tape {Q : QT} {f : IT} (hρ : Fx ρ) {w : Int} {s : Nat} (hs : s + 4 ≤ 700) (hQ : Q none ρ (tpF w s 4 f) g) (j : Nat) (hj : j ≤ 4) (e : Int) (he : e = 24 - 8 * (j : Int)) :
    V_X11_tapeNumber Q 3 [.ref 0, .int (iz w), .int (iz e)] [] ρ (tpF w s j f) g := by
  have e1 : tpF w s j f 0 1 = (s : Int) + (j : Int) := by unfold tpF; rw [if_neg (by omega), if_pos ⟨rfl, rfl⟩]
  by_cases ej : j = 4
  · subst ej
    refine V_il2n dX11_tapeNumber_3 ?_
    refine V_if_lt (tgt := 49) dX11_tapeNumber_4 rfl (by unfold ri; omega) (fun b4 => ?_) (fun b4 => ?_)
    · exact V_return rfl hQ dX11_tapeNumber_49
    · exfalso; omega
  · obtain ⟨k, rfl⟩ : ∃ k : Nat, e = (k : Int) := ⟨e.toNat, by omega⟩
    have ek : k = 24 - 8 * j := by omega
    have hby := byt_U (w := w) (j := j) (by omega)
    rw [← ek] at hby
    refine V_il2n dX11_tapeNumber_3 ?_
    refine V_if_lt (tgt := 49) dX11_tapeNumber_4 rfl (by unfold ri; omega) (fun b4 => ?_) (fun b4 => ?_)
    · exfalso; omega
    · refine V_al0n dX11_tapeNumber_7 ?_
      refine V_getI kk0 (by decide) fl_X11_13 e1 dX11_tapeNumber_8 ?_
      refine V_sipush dX11_tapeNumber_11 rfl ?_
      refine V_icmp_ge (tgt := 49) dX11_tapeNumber_14 rfl (by unfold ri; omega) (by unfold ri; omega) (fun b14 => ?_) (fun b14 => ?_)
      · exfalso; omega
      · refine V_al0n dX11_tapeNumber_17 ?_
        refine V_getR kk0 (by decide) fl_X11_9 (fx_0_0 hρ) dX11_tapeNumber_18 ?_
        refine V_al0n dX11_tapeNumber_21 ?_
        refine V_getI kk0 (by decide) fl_X11_13 e1 dX11_tapeNumber_22 ?_
        refine V_il1n dX11_tapeNumber_25 ?_
        refine V_il2n dX11_tapeNumber_26 ?_
        refine V_iushr dX11_tapeNumber_27 (iz_ushr (k := k) (by omega)) ?_
        refine V_sipush dX11_tapeNumber_28 rfl ?_
        refine V_iand dX11_tapeNumber_31 (iz_and255 _) ?_
        refine V_iast (k := (s + j)) kk1 (by decide) (by first | rfl | omega) (by omega) (by first | decide | assumption | omega) dX11_tapeNumber_32 ?_
        refine V_al0n dX11_tapeNumber_33 ?_
        refine V_dup dX11_tapeNumber_34 rfl ?_
        refine V_getI kk0 (by decide) fl_X11_13 (u2_n (by omega) e1) dX11_tapeNumber_35 ?_
        refine V_iconst dX11_tapeNumber_38 ?_
        refine V_iadd dX11_tapeNumber_39 ?_
        refine V_putI kk0 (by decide) fl_X11_13 rfl dX11_tapeNumber_40 ?_
        refine V_inc2 dX11_tapeNumber_43 (by decide) rfl ?_
        refine V_goto (tgt := 3) dX11_tapeNumber_46 rfl ?_
        rw [tpF_s hby]
        exact w_tape hρ hs hQ (j + 1) (by omega) _ (by omega)
termination_by 4 - j
theorem c_tapeNumber {f : IT} (hρ : Fx ρ) {w : Int} {s : Nat} (hs : s + 4 ≤ 700) (h1 : f 0 1 = (s : Int)) : C_X11_tapeNumber [.ref 0, .int (iz w)] ρ f g (fun r ρ' f' g' => r = none ∧ ρ' = ρ ∧ f' = tpF w s 4 f ∧ g' = g) := by
  have e0 : tpF w s 0 f = f := by
    funext a k
    unfold tpF
    rw [if_neg (by omega)]
    by_cases h : a = 0 ∧ k = 1
    · rw [if_pos h, h.1, h.2, h1]; omega
    · rw [if_neg h]
  have hgo := w_tape (Q := fun r ρ' f' g' => r = none ∧ ρ' = ρ ∧ f' = tpF w s 4 f ∧ g' = g) (g := g) (f := f) hρ hs ⟨rfl, rfl, rfl, rfl⟩ 0 (by omega) 24 (by omega)
  rw [e0] at hgo
  refine Ct.ofV (by decide) rfl (Nat.le_of_ble_eq_true rfl) ?_
  refine V_bipush dX11_tapeNumber_0 rfl ?_
  refine V_is2n dX11_tapeNumber_2 (by decide) rfl ?_
  exact hgo
/-- the class's tape against the reference's -/
def TPm (f φ : IT) : Prop := f 0 1 = φ 104 1 ∧ (0 ≤ φ 104 1 ∧ φ 104 1 ≤ 700) ∧ ∀ k : Nat, (k : Int) < φ 104 1 → f 1 k = φ 105 k
theorem c_feed {f φ : IT} (hρ : Fx ρ) (hT : TPm f φ) {a b c d e : Int} : C_X11_feed [.ref 0, .int (iz a), .int (iz b), .int (iz c), .int (iz d), .int (iz e)] ρ f g (fun r ρ' f' g' => r = some (.int (iz (fdA φ))) ∧ ρ' = ρ ∧ TPm f' (fdF a b c d e φ) ∧ (∀ x k, x ≠ 1 → ¬ (x = 0 ∧ k = 1) → f' x k = f x k) ∧ g' = g) := by
  obtain ⟨h1, h2, h3⟩ := hT
  obtain ⟨s, hs⟩ : ∃ s : Nat, φ 104 1 = (s : Int) := ⟨(φ 104 1).toNat, by omega⟩
  have h1s : f 0 1 = (s : Int) := h1.trans hs
  have at1 : ∀ (w : Int) (t : Nat) (F : IT), tpF w t 4 F 0 1 = ((t + 4 : Nat) : Int) := fun w t F => by unfold tpF; rw [if_neg (by omega), if_pos ⟨rfl, rfl⟩]; omega
  have fo : ∀ (w : Int) (t : Nat) (F : IT) (x k : Nat), x ≠ 1 → ¬ (x = 0 ∧ k = 1) → tpF w t 4 F x k = F x k := fun w t F x k z1 z2 => by unfold tpF; rw [if_neg (by omega), if_neg z2]
  have f1 : ∀ (w : Int) (t : Nat) (F : IT) (k : Nat), tpF w t 4 F 1 k = if t ≤ k ∧ k < t + 4 then byt w (k - t) else F 1 k := fun w t F k => by
    unfold tpF
    by_cases z : t ≤ k ∧ k < t + 4
    · rw [if_pos ⟨rfl, z⟩, if_pos z]
    · rw [if_neg (by omega), if_neg (by omega), if_neg z]
  refine Ct.ofV (by decide) rfl (Nat.le_of_ble_eq_true rfl) ?_
  unfold fdA fdF
  rw [hs, Int.toNat_natCast]
  by_cases z : (s : Int) + 20 ≤ 700
  · rw [if_pos z, if_pos z]
    refine V_al0n dX11_feed_0 ?_
    refine V_getI kk0 (by decide) fl_X11_13 h1s dX11_feed_1 ?_
    refine V_bipush dX11_feed_4 rfl ?_
    refine V_iadd dX11_feed_6 ?_
    refine V_sipush dX11_feed_7 rfl ?_
    refine V_icmp_le (tgt := 15) dX11_feed_10 rfl (by unfold ri; omega) (by unfold ri; omega) (fun b10 => ?_) (fun b10 => ?_)
    · refine V_al0n dX11_feed_15 ?_
      refine V_il1n dX11_feed_16 ?_
      refine V_callV (as := [_]) ml_X11_111 im_X11_tapeNumber se_X11_tapeNumber kk0 (by decide) (by decide) dX11_feed_17 rfl rfl (by decide) (by decide) (Nat.le_of_ble_eq_true rfl) (by decide) (by decide) rfl (c_tapeNumber hρ (s := s) (by omega) h1s) ?_
      refine pq4 ?_
      refine V_al0n dX11_feed_20 ?_
      refine V_il2n dX11_feed_21 ?_
      refine V_callV (as := [_]) ml_X11_111 im_X11_tapeNumber se_X11_tapeNumber kk0 (by decide) (by decide) dX11_feed_22 rfl rfl (by decide) (by decide) (Nat.le_of_ble_eq_true rfl) (by decide) (by decide) rfl (c_tapeNumber hρ (s := s + 4) (by omega) (at1 _ _ _)) ?_
      refine pq4 ?_
      refine V_al0n dX11_feed_25 ?_
      refine V_il3n dX11_feed_26 ?_
      refine V_callV (as := [_]) ml_X11_111 im_X11_tapeNumber se_X11_tapeNumber kk0 (by decide) (by decide) dX11_feed_27 rfl rfl (by decide) (by decide) (Nat.le_of_ble_eq_true rfl) (by decide) (by decide) rfl (c_tapeNumber hρ (s := s + 4 + 4) (by omega) (at1 _ _ _)) ?_
      refine pq4 ?_
      refine V_al0n dX11_feed_30 ?_
      refine V_il4 dX11_feed_31 ?_
      refine V_callV (as := [_]) ml_X11_111 im_X11_tapeNumber se_X11_tapeNumber kk0 (by decide) (by decide) dX11_feed_33 rfl rfl (by decide) (by decide) (Nat.le_of_ble_eq_true rfl) (by decide) (by decide) rfl (c_tapeNumber hρ (s := s + 4 + 4 + 4) (by omega) (at1 _ _ _)) ?_
      refine pq4 ?_
      refine V_al0n dX11_feed_36 ?_
      refine V_il5 dX11_feed_37 ?_
      refine V_callV (as := [_]) ml_X11_111 im_X11_tapeNumber se_X11_tapeNumber kk0 (by decide) (by decide) dX11_feed_39 rfl rfl (by decide) (by decide) (Nat.le_of_ble_eq_true rfl) (by decide) (by decide) rfl (c_tapeNumber hρ (s := s + 4 + 4 + 4 + 4) (by omega) (at1 _ _ _)) ?_
      refine pq4 ?_
      refine V_al0n dX11_feed_42 ?_
      refine V_getI kk0 (by decide) fl_X11_13 (at1 _ _ _) dX11_feed_43 ?_
      exact V_ireturn rfl ⟨by congr 3 <;> omega, rfl, ⟨by rw [at1, u2_s]; omega, by rw [u2_s]; omega, fun k hk => by
  rw [u2_s] at hk
  rw [u2_o (by omega), f1, f1, f1, f1, f1]
  unfold fdR
  by_cases c0 : k < s
  · rw [if_neg (by omega), if_neg (by omega), if_neg (by omega), if_neg (by omega), if_neg (by omega), if_neg (by omega), u2_o (by omega)]
    exact h3 k (by omega)
  · rw [if_pos (show 105 = 105 ∧ s ≤ k ∧ k < s + 20 by omega)]
    unfold fdw
    rcases (show (k - s) / 4 = 0 ∨ (k - s) / 4 = 1 ∨ (k - s) / 4 = 2 ∨ (k - s) / 4 = 3 ∨ (k - s) / 4 = 4 by omega) with q | q | q | q | q
    · rw [q, if_neg (by omega), if_neg (by omega), if_neg (by omega), if_neg (by omega), if_pos (by omega), if_pos rfl]; congr 1; omega
    · rw [q, if_neg (by omega), if_neg (by omega), if_neg (by omega), if_pos (by omega), if_neg (by omega), if_pos rfl]; congr 1; omega
    · rw [q, if_neg (by omega), if_neg (by omega), if_pos (by omega), if_neg (by omega), if_neg (by omega), if_pos rfl]; congr 1; omega
    · rw [q, if_neg (by omega), if_pos (by omega), if_neg (by omega), if_neg (by omega), if_neg (by omega), if_pos rfl]; congr 1; omega
    · rw [q, if_pos (by omega), if_neg (by omega), if_neg (by omega), if_neg (by omega), if_neg (by omega)]; congr 1; omega⟩, fun x k z1 z2 => by rw [fo _ _ _ x k z1 z2, fo _ _ _ x k z1 z2, fo _ _ _ x k z1 z2, fo _ _ _ x k z1 z2, fo _ _ _ x k z1 z2], rfl⟩ dX11_feed_46
    · exfalso; omega
  · rw [if_neg z, if_neg z]
    refine V_al0n dX11_feed_0 ?_
    refine V_getI kk0 (by decide) fl_X11_13 h1s dX11_feed_1 ?_
    refine V_bipush dX11_feed_4 rfl ?_
    refine V_iadd dX11_feed_6 ?_
    refine V_sipush dX11_feed_7 rfl ?_
    refine V_icmp_le (tgt := 15) dX11_feed_10 rfl (by unfold ri; omega) (by unfold ri; omega) (fun b10 => ?_) (fun b10 => ?_)
    · exfalso; omega
    · refine V_iconst dX11_feed_13 ?_
      exact V_ireturn rfl ⟨rfl, rfl, ⟨by rw [u2_o (by omega)]; exact h1, by rw [u2_o (by omega)]; exact h2, fun k hk => by rw [u2_o (by omega)] at hk; rw [u2_o (by omega)]; exact h3 k hk⟩, fun _ _ _ _ => rfl, rfl⟩ dX11_feed_14
end CFEED

