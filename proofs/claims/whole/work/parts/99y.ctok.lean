/-! the class's tokens, against the reference's -/
def cwK (k : Int) : Int := if k ≤ 9 then k + 16 else if k ≤ 17 then k - 10 else if k = 18 then 27 else if k = 19 then 26 else if k = 20 then 28 else k - 13
def ckK (k : Int) : Int := if 21 ≤ k then 1 else if k = 18 then 4 else if k = 19 then 3 else if k = 20 then 2 else 18
def csK (c : Int) : Int := if c = 59 then 17 else if c = 40 then 15 else if c = 41 then 16 else if c = 43 then 11 else if c = 45 then 12 else if c = 42 then 13 else if c = 47 then 14 else 19
/-- the class's kind, value, word for the reference's kind and which -/
def TKv (k w K V W : Int) : Prop := (k = 0 → K = 20 ∧ W = -1) ∧ (k = 1 → K = ckK w ∧ W = cwK w ∧ (21 ≤ w → V = w - 21)) ∧ (k = 2 → K = 18 ∧ W = -1 ∧ V = w) ∧ (k = 3 → K = 0 ∧ W = -1 ∧ ((V = w ∧ w ≤ 99999) ∨ (99999 < V ∧ 99999 < w)) ∧ 0 ≤ V ∧ V ≤ 1000000) ∧ (k = 4 → K = csK w ∧ W = -1) ∧ (k = 5 → K = 5 + w ∧ W = -1) ∧ (k = 6 → K = 19 ∧ W = -1)
def TKc (t : T4) (f : IT) : Prop := f 4 4 = (t.1 : Int) ∧ f 4 2 = (t.2.1 : Int) ∧ TKv t.2.2.1 t.2.2.2 (f 4 3) (f 4 5) (f 4 6)
def LGf (k : Nat) : Int := ([680956928, 117035008, 36967424, 236238848, 681120768, 270087168, 337018880, 781325312, 538022912, 650625184, 273734432, 777297172, 781651968, 408144896, 135708672, 123295904, 404165632, 437714944, 284561408, 549500928, 357702816, 418418688, 642945024, 404455424, 72814592, 777650176, 522190848, 48365568, 486146048] : List Int).getD k 0
theorem LG_st : ∀ k : Nat, k < 29 → (sT 0).getD k 0 = iz (LGf k) := by decide
theorem LG_ri : ∀ k : Nat, k < 29 → 0 ≤ LGf k ∧ LGf k ≤ 1073741824 := by decide
theorem LG_inj : ∀ k : Nat, k < 29 → ∀ j : Nat, j < 29 → LGf k = LGf j → k = j := by decide
theorem LG_mw : ∀ k : Nat, k < 29 → (0 ≤ cwK (k : Int) ∧ cwK (k : Int) < 29) ∧ LGf (cwK (k : Int)).toNat = MWf k := by decide
theorem LG_on : ∀ i : Nat, i < 29 → ∃ k : Nat, k < 29 ∧ (cwK (k : Int)).toNat = i := by decide
section CTOK
variable {ρ : RT} {g : JT}
theorem c_xLetter {f : IT} {n : Int} (hn : ri n) : C_X6_isLetter [.int (iz n)] ρ f g (fun r ρ' f' g' => r = some (.int (iz (bz (isL n)))) ∧ ρ' = ρ ∧ f' = f ∧ g' = g) := by
  refine Ct.ofV (by decide) rfl (Nat.le_of_ble_eq_true rfl) ?_
  refine V_il0n dX6_isLetter_0 ?_
  refine V_bipush dX6_isLetter_1 rfl ?_
  refine V_icmp_lt (tgt := 16) dX6_isLetter_3 rfl (by first | assumption | (unfold ri at *; omega)) (by first | assumption | (unfold ri at *; omega)) (fun b3 => ?_) (fun b3 => ?_)
  · refine V_iconst dX6_isLetter_16 ?_
    exact V_zreturn rfl (by first | exact Or.inl rfl | exact Or.inr rfl | (unfold bz; split <;> simp)) ⟨by unfold isL bz; simp only [decide_eq_true_eq]; split <;> first | rfl | (exfalso; omega), rfl, rfl, rfl⟩ dX6_isLetter_17
  · refine V_il0n dX6_isLetter_6 ?_
    refine V_bipush dX6_isLetter_7 rfl ?_
    refine V_icmp_gt (tgt := 16) dX6_isLetter_9 rfl (by first | assumption | (unfold ri at *; omega)) (by first | assumption | (unfold ri at *; omega)) (fun b9 => ?_) (fun b9 => ?_)
    · refine V_iconst dX6_isLetter_16 ?_
      exact V_zreturn rfl (by first | exact Or.inl rfl | exact Or.inr rfl | (unfold bz; split <;> simp)) ⟨by unfold isL bz; simp only [decide_eq_true_eq]; split <;> first | rfl | (exfalso; omega), rfl, rfl, rfl⟩ dX6_isLetter_17
    · refine V_iconst dX6_isLetter_12 ?_
      refine V_goto (tgt := 17) dX6_isLetter_13 rfl ?_
      exact V_zreturn rfl (by first | exact Or.inl rfl | exact Or.inr rfl | (unfold bz; split <;> simp)) ⟨by unfold isL bz; simp only [decide_eq_true_eq]; split <;> first | rfl | (exfalso; omega), rfl, rfl, rfl⟩ dX6_isLetter_17
theorem c_xDigit {f : IT} {n : Int} (hn : ri n) : C_X6_isDigit [.int (iz n)] ρ f g (fun r ρ' f' g' => r = some (.int (iz (bz (isG n)))) ∧ ρ' = ρ ∧ f' = f ∧ g' = g) := by
  refine Ct.ofV (by decide) rfl (Nat.le_of_ble_eq_true rfl) ?_
  refine V_il0n dX6_isDigit_0 ?_
  refine V_bipush dX6_isDigit_1 rfl ?_
  refine V_icmp_lt (tgt := 16) dX6_isDigit_3 rfl (by first | assumption | (unfold ri at *; omega)) (by first | assumption | (unfold ri at *; omega)) (fun b3 => ?_) (fun b3 => ?_)
  · refine V_iconst dX6_isDigit_16 ?_
    exact V_zreturn rfl (by first | exact Or.inl rfl | exact Or.inr rfl | (unfold bz; split <;> simp)) ⟨by unfold isG bz; simp only [decide_eq_true_eq]; split <;> first | rfl | (exfalso; omega), rfl, rfl, rfl⟩ dX6_isDigit_17
  · refine V_il0n dX6_isDigit_6 ?_
    refine V_bipush dX6_isDigit_7 rfl ?_
    refine V_icmp_gt (tgt := 16) dX6_isDigit_9 rfl (by first | assumption | (unfold ri at *; omega)) (by first | assumption | (unfold ri at *; omega)) (fun b9 => ?_) (fun b9 => ?_)
    · refine V_iconst dX6_isDigit_16 ?_
      exact V_zreturn rfl (by first | exact Or.inl rfl | exact Or.inr rfl | (unfold bz; split <;> simp)) ⟨by unfold isG bz; simp only [decide_eq_true_eq]; split <;> first | rfl | (exfalso; omega), rfl, rfl, rfl⟩ dX6_isDigit_17
    · refine V_iconst dX6_isDigit_12 ?_
      refine V_goto (tgt := 17) dX6_isDigit_13 rfl ?_
      exact V_zreturn rfl (by first | exact Or.inl rfl | exact Or.inr rfl | (unfold bz; split <;> simp)) ⟨by unfold isG bz; simp only [decide_eq_true_eq]; split <;> first | rfl | (exfalso; omega), rfl, rfl, rfl⟩ dX6_isDigit_17
/-- the tape as the tokens have it -/
def CTp (tp : Nat → Int) (s : Nat) (f : IT) : Prop := s ≤ 700 ∧ f 4 1 = (s : Int) ∧ (∀ k, k < s → f 1 k = tp k) ∧ ∀ k, k < 700 → 0 ≤ tp k ∧ tp k ≤ 255
theorem CTp.cg {tp : Nat → Int} {s : Nat} {f f' : IT} (h : CTp tp s f) (e1 : f' 4 1 = f 4 1) (e : ∀ k, f' 1 k = f 1 k) : CTp tp s f' := ⟨h.1, e1.trans h.2.1, fun k hk => (e k).trans (h.2.2.1 k hk), h.2.2.2⟩
section RN
variable {tp : Nat → Int} {s : Nat} {f0 : IT}
theorem c_xtake {f : IT} (hρ : Fx ρ) (hT : CTp tp s f) {p : Nat} (hp : p ≤ s) (h2 : f 4 2 = (p : Int)) {c : Int} (rc : ri c) : C_X6_take [.ref 4, .int (iz c)] ρ f g (fun r ρ' f' g' => r = some (.int (iz (bz (decide (p < s ∧ tp p = c))))) ∧ ρ' = ρ ∧ f' = (if p < s ∧ tp p = c then u2 f 4 2 ((p : Int) + 1) else f) ∧ g' = g) := by
  obtain ⟨t1, t2, t3, t4⟩ := hT
  refine Ct.ofV (by decide) rfl (Nat.le_of_ble_eq_true rfl) ?_
  by_cases e : p = s
  · subst e
    rw [decide_eq_false (by omega), if_neg (by omega)]
    refine V_al0n dX6_take_0 ?_
    refine V_getI kk4 (by decide) fl_X6_15 h2 dX6_take_1 ?_
    refine V_al0n dX6_take_4 ?_
    refine V_getI kk4 (by decide) fl_X6_9 t2 dX6_take_5 ?_
    refine V_icmp_ge (tgt := 24) dX6_take_8 rfl (by unfold ri; omega) (by unfold ri; omega) (fun b8 => ?_) (fun b8 => ?_)
    · refine V_iconst dX6_take_24 ?_
      exact V_zreturn rfl (by first | exact Or.inl rfl | exact Or.inr rfl | (unfold bz; split <;> simp)) ⟨rfl, rfl, rfl, rfl⟩ dX6_take_25
    · exfalso; omega
  · have hb := t4 p (by omega)
    refine V_al0n dX6_take_0 ?_
    refine V_getI kk4 (by decide) fl_X6_15 h2 dX6_take_1 ?_
    refine V_al0n dX6_take_4 ?_
    refine V_getI kk4 (by decide) fl_X6_9 t2 dX6_take_5 ?_
    refine V_icmp_ge (tgt := 24) dX6_take_8 rfl (by unfold ri; omega) (by unfold ri; omega) (fun b8 => ?_) (fun b8 => ?_)
    · exfalso; omega
    · refine V_al0n dX6_take_11 ?_
      refine V_getR kk4 (by decide) fl_X6_30 (fx_4_0 hρ) dX6_take_12 ?_
      refine V_al0n dX6_take_15 ?_
      refine V_getI kk4 (by decide) fl_X6_15 h2 dX6_take_16 ?_
      refine V_iald (k := p) kk1 (by decide) (by first | rfl | omega) (by omega) (by first | decide | assumption | omega) (t3 p (by omega)) dX6_take_19 ?_
      refine V_il1n dX6_take_20 ?_
      refine V_icmp_eq (tgt := 26) dX6_take_21 rfl (by unfold ri; omega) rc (fun b21 => ?_) (fun b21 => ?_)
      · refine V_al0n dX6_take_26 ?_
        refine V_dup dX6_take_27 rfl ?_
        refine V_getI kk4 (by decide) fl_X6_15 h2 dX6_take_28 ?_
        refine V_iconst dX6_take_31 ?_
        refine V_iadd dX6_take_32 ?_
        refine V_putI kk4 (by decide) fl_X6_15 rfl dX6_take_33 ?_
        refine V_iconst dX6_take_36 ?_
        exact V_zreturn rfl (by first | exact Or.inl rfl | exact Or.inr rfl | (unfold bz; split <;> simp)) ⟨by rw [decide_eq_true ⟨by omega, b21⟩]; rfl, rfl, by rw [if_pos ⟨by omega, b21⟩], rfl⟩ dX6_take_37
      · refine V_iconst dX6_take_24 ?_
        exact V_zreturn rfl (by first | exact Or.inl rfl | exact Or.inr rfl | (unfold bz; split <;> simp)) ⟨by rw [decide_eq_false (by omega)]; rfl, rfl, by rw [if_neg (by omega)], rfl⟩ dX6_take_25
theorem w_know2 {Q : QT} {v : Int} (rv : ri v) {w : Int} (hw : (∃ i : Nat, i < 29 ∧ LGf i = v ∧ w = (i : Int)) ∨ ((∀ i, i < 29 → LGf i ≠ v) ∧ w = -1)) {f : IT} (hX : V_X6_knowWord Q 33 [.ref 4, .null] [] ρ (u2 f 4 6 w) g) (h5 : f 4 5 = v) (i : Nat) (hi : i ≤ 29) (x : Int) (hx : (∃ j : Nat, j < i ∧ LGf j = v ∧ x = (j : Int)) ∨ ((∀ j, j < i → LGf j ≠ v) ∧ x = -1)) :
    V_X6_knowWord Q 2 [.ref 4, .int (iz (i : Int))] [] ρ (u2 f 4 6 x) g := by
  by_cases e : i = 29
  · subst e
    have exw : x = w := by
      rcases hx with ⟨j, a1, a2, a3⟩ | ⟨a1, a2⟩
      · rcases hw with ⟨k, c1, c2, c3⟩ | ⟨c1, c2⟩
        · have := LG_inj j a1 k c1 (a2.trans c2.symm); omega
        · exact absurd a2 (c1 j a1)
      · rcases hw with ⟨k, c1, c2, c3⟩ | ⟨c1, c2⟩
        · exact absurd c2 (a1 k c1)
        · omega
    subst exw
    refine V_il1n dX6_knowWord_2 ?_
    refine V_gets (j := 0) (by decide) fs_X6_59 dX6_knowWord_3 ?_
    refine V_stlen (j := 0) (by decide) rfl dX6_knowWord_6 ?_
    refine V_icmp_ge (tgt := 33) dX6_knowWord_7 rfl (by unfold ri; omega) (by unfold ri; decide) (fun b7 => ?_) (fun b7 => ?_)
    · exact V_weak (by repeat (first | exact wk_n | refine wk_c (Or.inr rfl) ?_ | refine wk_c (Or.inl rfl) ?_)) hX
    · exfalso; revert b7; decide
  · have hl := LG_ri i (by omega)
    have nx := fun x' hx' => w_know2 rv hw hX h5 (i + 1) (by omega) x' hx'
    refine V_il1n dX6_knowWord_2 ?_
    refine V_gets (j := 0) (by decide) fs_X6_59 dX6_knowWord_3 ?_
    refine V_stlen (j := 0) (by decide) rfl dX6_knowWord_6 ?_
    refine V_icmp_ge (tgt := 33) dX6_knowWord_7 rfl (by unfold ri; omega) (by unfold ri; decide) (fun b7 => ?_) (fun b7 => ?_)
    · exfalso; have : ((29 : Nat) : Int) ≤ (i : Int) := b7; omega
    · refine V_gets (j := 0) (by decide) fs_X6_59 dX6_knowWord_10 ?_
      refine V_il1n dX6_knowWord_13 ?_
      refine V_stld (j := 0) (by decide) rfl (show i < 29 by omega) (LG_st i (by omega)) dX6_knowWord_14 ?_
      refine V_al0n dX6_knowWord_15 ?_
      refine V_getI kk4 (by decide) fl_X6_24 (u2_n (by omega) h5) dX6_knowWord_16 ?_
      refine V_icmp_ne (tgt := 27) dX6_knowWord_19 rfl (by unfold ri; omega) rv (fun b19 => ?_) (fun b19 => ?_)
      · refine V_inc1 dX6_knowWord_27 (by decide) rfl ?_
        refine V_goto (tgt := 2) dX6_knowWord_30 rfl ?_
        refine nx x ?_
        rcases hx with ⟨j, a1, a2, a3⟩ | ⟨a1, a2⟩
        · exact Or.inl ⟨j, by omega, a2, a3⟩
        · exact Or.inr ⟨fun j hj => by by_cases ej : j = i; (rw [ej]; exact b19); exact a1 j (by omega), a2⟩
      · refine V_al0n dX6_knowWord_22 ?_
        refine V_il1n dX6_knowWord_23 ?_
        refine V_putI kk4 (by decide) fl_X6_27 rfl dX6_knowWord_24 ?_
        refine V_inc1 dX6_knowWord_27 (by decide) rfl ?_
        refine V_goto (tgt := 2) dX6_knowWord_30 rfl ?_
        rw [u2_u2]
        exact nx (i : Int) (Or.inl ⟨i, by omega, by omega, rfl⟩)
termination_by 29 - i
theorem u2_sm {α : Type} {f : Nat → Nat → α} {a k : Nat} {x : α} (h : f a k = x) : u2 f a k x = f := by
  funext b j
  unfold u2
  by_cases e : b = a ∧ j = k
  · rw [if_pos e, e.1, e.2, h]
  · rw [if_neg e]
/-- knowing a word: kind and word, and which name -/
theorem c_knowWord {f : IT} {v : Int} (rv : ri v) (h5 : f 4 5 = v) (h6 : f 4 6 = -1) (h3 : f 4 3 = 18) : C_X6_knowWord [.ref 4] ρ f g (fun r ρ' f' g' => r = none ∧ ρ' = ρ ∧ (∀ a k, ¬ (a = 4 ∧ (k = 3 ∨ k = 5 ∨ k = 6)) → f' a k = f a k) ∧ TKv (if 0 ≤ fnd MWf 0 29 v then 1 else 2) (if 0 ≤ fnd MWf 0 29 v then fnd MWf 0 29 v else v) (f' 4 3) (f' 4 5) (f' 4 6) ∧ g' = g) := by
  have hfr := fnd_rng (r := MWf) (o := 0) (n := 29) (x := v)
  -- which word of the class it is
  obtain ⟨w, hw, hrel⟩ : ∃ w : Int, ((∃ i : Nat, i < 29 ∧ LGf i = v ∧ w = (i : Int)) ∨ ((∀ i, i < 29 → LGf i ≠ v) ∧ w = -1)) ∧ ((∃ k : Nat, k < 29 ∧ fnd MWf 0 29 v = (k : Int) ∧ w = cwK (k : Int)) ∨ (fnd MWf 0 29 v = -1 ∧ w = -1)) := by
    by_cases c : ∃ k : Nat, k < 29 ∧ MWf k = v
    · obtain ⟨k, k1, k2⟩ := c
      have hm := LG_mw k k1
      have hfk : fnd MWf 0 29 v = (k : Int) := by
        refine fnd_yes k1 (by rw [Nat.zero_add]; exact k2) (fun i hi e => ?_)
        rw [Nat.zero_add] at e
        have hm2 := LG_mw i (by omega)
        have : (cwK (i : Int)).toNat = (cwK (k : Int)).toNat := LG_inj _ (by omega) _ (by omega) (by rw [hm2.2, hm.2, e, k2])
        have inj : ∀ i : Nat, i < 29 → ∀ k : Nat, k < 29 → (cwK (i : Int)).toNat = (cwK (k : Int)).toNat → i = k := by decide
        have := inj i (by omega) k k1 this
        omega
      refine ⟨cwK (k : Int), Or.inl ⟨(cwK (k : Int)).toNat, by omega, by rw [hm.2, k2], by omega⟩, Or.inl ⟨k, k1, hfk, rfl⟩⟩
    · refine ⟨-1, Or.inr ⟨fun i hi e => c ?_, rfl⟩, Or.inr ⟨fnd_no (fun i hi e => c ⟨i, hi, by rw [Nat.zero_add] at e; exact e⟩), rfl⟩⟩
      obtain ⟨k, k1, k2⟩ := LG_on i hi
      have := (LG_mw k k1).2
      rw [k2] at this
      exact ⟨k, k1, by rw [← this, e]⟩
  have hwr : -1 ≤ w ∧ w ≤ 28 := by
    rcases hw with ⟨i, a1, a2, a3⟩ | ⟨-, a2⟩ <;> omega
  have fin : ∀ F : IT, (∀ a k, ¬ (a = 4 ∧ (k = 3 ∨ k = 5 ∨ k = 6)) → F a k = f a k) → F 4 6 = w → ((8 ≤ w ∧ w < 16 → F 4 3 = 1 ∧ F 4 5 = w - 8) ∧ (¬ (8 ≤ w ∧ w < 16) → F 4 5 = v ∧ F 4 3 = (if w = 26 then 3 else if w = 27 then 4 else if w = 28 then 2 else 18))) → ((none : Option Value) = none ∧ ρ = ρ ∧ (∀ a k, ¬ (a = 4 ∧ (k = 3 ∨ k = 5 ∨ k = 6)) → F a k = f a k) ∧ TKv (if 0 ≤ fnd MWf 0 29 v then 1 else 2) (if 0 ≤ fnd MWf 0 29 v then fnd MWf 0 29 v else v) (F 4 3) (F 4 5) (F 4 6) ∧ g = g) := fun F a1 a2 a3 => by
    refine ⟨rfl, rfl, a1, ?_, rfl⟩
    rw [a2]
    rcases hrel with ⟨k, k1, k2, k3⟩ | ⟨k2, k3⟩
    · rw [k2, if_pos (by omega), if_pos (by omega)]
      refine ⟨fun q => by omega, fun _ => ?_, fun q => by omega, fun q => by omega, fun q => by omega, fun q => by omega, fun q => by omega⟩
      unfold cwK at k3
      unfold ckK cwK
      by_cases c : 8 ≤ w ∧ w < 16
      · have := a3.1 c
        refine ⟨?_, k3, fun z => ?_⟩
        · rw [this.1]; (repeat' split at k3) <;> (repeat' split) <;> omega
        · rw [this.2]; (repeat' split at k3) <;> omega
      · have := a3.2 c
        refine ⟨?_, k3, fun z => ?_⟩
        · rw [this.2]; (repeat' split at k3) <;> (repeat' split) <;> omega
        · (repeat' split at k3) <;> omega
    · rw [k2, if_neg (by omega), if_neg (by omega)]
      have := a3.2 (by omega)
      refine ⟨fun q => by omega, fun q => by omega, fun _ => ⟨?_, k3, this.1⟩, fun q => by omega, fun q => by omega, fun q => by omega, fun q => by omega⟩
      rw [this.2, if_neg (by omega), if_neg (by omega), if_neg (by omega)]
  have g3 : (u2 f 4 6 w) 4 3 = 18 := u2_n (by omega) h3
  have g5 : (u2 f 4 6 w) 4 5 = v := u2_n (by omega) h5
  have hX : V_X6_knowWord (fun r ρ' f' g' => r = none ∧ ρ' = ρ ∧ (∀ a k, ¬ (a = 4 ∧ (k = 3 ∨ k = 5 ∨ k = 6)) → f' a k = f a k) ∧ TKv (if 0 ≤ fnd MWf 0 29 v then 1 else 2) (if 0 ≤ fnd MWf 0 29 v then fnd MWf 0 29 v else v) (f' 4 3) (f' 4 5) (f' 4 6) ∧ g' = g) 33 [.ref 4, .null] [] ρ (u2 f 4 6 w) g := by
    have fo : ∀ a k, ¬ (a = 4 ∧ (k = 3 ∨ k = 5 ∨ k = 6)) → (u2 f 4 6 w) a k = f a k := fun a k z => u2_o (by omega)
    have g6 : (u2 f 4 6 w) 4 6 = w := u2_s
    generalize u2 f 4 6 w = F at *
    refine V_al0n dX6_knowWord_33 ?_
    refine V_getI kk4 (by decide) fl_X6_27 g6 dX6_knowWord_34 ?_
    refine V_bipush dX6_knowWord_37 rfl ?_
    refine V_icmp_lt (tgt := 70) dX6_knowWord_39 rfl (by unfold ri; omega) (by unfold ri; omega) (fun b39 => ?_) (fun b39 => ?_)
    · refine V_al0n dX6_knowWord_70 ?_
      refine V_getI kk4 (by decide) fl_X6_27 g6 dX6_knowWord_71 ?_
      refine V_bipush dX6_knowWord_74 rfl ?_
      refine V_icmp_ne (tgt := 87) dX6_knowWord_76 rfl (by unfold ri; omega) (by unfold ri; omega) (fun b76 => ?_) (fun b76 => ?_)
      · refine V_al0n dX6_knowWord_87 ?_
        refine V_getI kk4 (by decide) fl_X6_27 g6 dX6_knowWord_88 ?_
        refine V_bipush dX6_knowWord_91 rfl ?_
        refine V_icmp_ne (tgt := 104) dX6_knowWord_93 rfl (by unfold ri; omega) (by unfold ri; omega) (fun b93 => ?_) (fun b93 => ?_)
        · refine V_al0n dX6_knowWord_104 ?_
          refine V_getI kk4 (by decide) fl_X6_27 g6 dX6_knowWord_105 ?_
          refine V_bipush dX6_knowWord_108 rfl ?_
          refine V_icmp_ne (tgt := 118) dX6_knowWord_110 rfl (by unfold ri; omega) (by unfold ri; omega) (fun b110 => ?_) (fun b110 => ?_)
          · exact V_return rfl (fin _ (fun a k z => by first | exact fo a k z | (rw [u2_o (by omega)]; exact fo a k z) | (rw [u2_o (by omega), u2_o (by omega)]; exact fo a k z)) (by first | exact g6 | (rw [u2_o (by omega)]; exact g6) | (rw [u2_o (by omega), u2_o (by omega)]; exact g6)) ⟨fun z => by first | (exfalso; omega) | exact ⟨by rw [u2_o (by omega), u2_s], by rw [u2_s]⟩, fun z => by first | (exfalso; omega) | exact ⟨by first | exact g5 | (rw [u2_o (by omega)]; exact g5), by (repeat' split) <;> first | (exfalso; omega) | exact u2_s | exact g3⟩⟩) dX6_knowWord_118
          · refine V_al0n dX6_knowWord_113 ?_
            refine V_iconst dX6_knowWord_114 ?_
            refine V_putI kk4 (by decide) fl_X6_18 rfl dX6_knowWord_115 ?_
            exact V_return rfl (fin _ (fun a k z => by first | exact fo a k z | (rw [u2_o (by omega)]; exact fo a k z) | (rw [u2_o (by omega), u2_o (by omega)]; exact fo a k z)) (by first | exact g6 | (rw [u2_o (by omega)]; exact g6) | (rw [u2_o (by omega), u2_o (by omega)]; exact g6)) ⟨fun z => by first | (exfalso; omega) | exact ⟨by rw [u2_o (by omega), u2_s], by rw [u2_s]⟩, fun z => by first | (exfalso; omega) | exact ⟨by first | exact g5 | (rw [u2_o (by omega)]; exact g5), by (repeat' split) <;> first | (exfalso; omega) | exact u2_s | exact g3⟩⟩) dX6_knowWord_118
        · refine V_al0n dX6_knowWord_96 ?_
          refine V_iconst dX6_knowWord_97 ?_
          refine V_putI kk4 (by decide) fl_X6_18 rfl dX6_knowWord_98 ?_
          refine V_goto (tgt := 118) dX6_knowWord_101 rfl ?_
          exact V_return rfl (fin _ (fun a k z => by first | exact fo a k z | (rw [u2_o (by omega)]; exact fo a k z) | (rw [u2_o (by omega), u2_o (by omega)]; exact fo a k z)) (by first | exact g6 | (rw [u2_o (by omega)]; exact g6) | (rw [u2_o (by omega), u2_o (by omega)]; exact g6)) ⟨fun z => by first | (exfalso; omega) | exact ⟨by rw [u2_o (by omega), u2_s], by rw [u2_s]⟩, fun z => by first | (exfalso; omega) | exact ⟨by first | exact g5 | (rw [u2_o (by omega)]; exact g5), by (repeat' split) <;> first | (exfalso; omega) | exact u2_s | exact g3⟩⟩) dX6_knowWord_118
      · refine V_al0n dX6_knowWord_79 ?_
        refine V_iconst dX6_knowWord_80 ?_
        refine V_putI kk4 (by decide) fl_X6_18 rfl dX6_knowWord_81 ?_
        refine V_goto (tgt := 118) dX6_knowWord_84 rfl ?_
        exact V_return rfl (fin _ (fun a k z => by first | exact fo a k z | (rw [u2_o (by omega)]; exact fo a k z) | (rw [u2_o (by omega), u2_o (by omega)]; exact fo a k z)) (by first | exact g6 | (rw [u2_o (by omega)]; exact g6) | (rw [u2_o (by omega), u2_o (by omega)]; exact g6)) ⟨fun z => by first | (exfalso; omega) | exact ⟨by rw [u2_o (by omega), u2_s], by rw [u2_s]⟩, fun z => by first | (exfalso; omega) | exact ⟨by first | exact g5 | (rw [u2_o (by omega)]; exact g5), by (repeat' split) <;> first | (exfalso; omega) | exact u2_s | exact g3⟩⟩) dX6_knowWord_118
    · refine V_al0n dX6_knowWord_42 ?_
      refine V_getI kk4 (by decide) fl_X6_27 g6 dX6_knowWord_43 ?_
      refine V_bipush dX6_knowWord_46 rfl ?_
      refine V_icmp_ge (tgt := 70) dX6_knowWord_48 rfl (by unfold ri; omega) (by unfold ri; omega) (fun b48 => ?_) (fun b48 => ?_)
      · refine V_al0n dX6_knowWord_70 ?_
        refine V_getI kk4 (by decide) fl_X6_27 g6 dX6_knowWord_71 ?_
        refine V_bipush dX6_knowWord_74 rfl ?_
        refine V_icmp_ne (tgt := 87) dX6_knowWord_76 rfl (by unfold ri; omega) (by unfold ri; omega) (fun b76 => ?_) (fun b76 => ?_)
        · refine V_al0n dX6_knowWord_87 ?_
          refine V_getI kk4 (by decide) fl_X6_27 g6 dX6_knowWord_88 ?_
          refine V_bipush dX6_knowWord_91 rfl ?_
          refine V_icmp_ne (tgt := 104) dX6_knowWord_93 rfl (by unfold ri; omega) (by unfold ri; omega) (fun b93 => ?_) (fun b93 => ?_)
          · refine V_al0n dX6_knowWord_104 ?_
            refine V_getI kk4 (by decide) fl_X6_27 g6 dX6_knowWord_105 ?_
            refine V_bipush dX6_knowWord_108 rfl ?_
            refine V_icmp_ne (tgt := 118) dX6_knowWord_110 rfl (by unfold ri; omega) (by unfold ri; omega) (fun b110 => ?_) (fun b110 => ?_)
            · exact V_return rfl (fin _ (fun a k z => by first | exact fo a k z | (rw [u2_o (by omega)]; exact fo a k z) | (rw [u2_o (by omega), u2_o (by omega)]; exact fo a k z)) (by first | exact g6 | (rw [u2_o (by omega)]; exact g6) | (rw [u2_o (by omega), u2_o (by omega)]; exact g6)) ⟨fun z => by first | (exfalso; omega) | exact ⟨by rw [u2_o (by omega), u2_s], by rw [u2_s]⟩, fun z => by first | (exfalso; omega) | exact ⟨by first | exact g5 | (rw [u2_o (by omega)]; exact g5), by (repeat' split) <;> first | (exfalso; omega) | exact u2_s | exact g3⟩⟩) dX6_knowWord_118
            · refine V_al0n dX6_knowWord_113 ?_
              refine V_iconst dX6_knowWord_114 ?_
              refine V_putI kk4 (by decide) fl_X6_18 rfl dX6_knowWord_115 ?_
              exact V_return rfl (fin _ (fun a k z => by first | exact fo a k z | (rw [u2_o (by omega)]; exact fo a k z) | (rw [u2_o (by omega), u2_o (by omega)]; exact fo a k z)) (by first | exact g6 | (rw [u2_o (by omega)]; exact g6) | (rw [u2_o (by omega), u2_o (by omega)]; exact g6)) ⟨fun z => by first | (exfalso; omega) | exact ⟨by rw [u2_o (by omega), u2_s], by rw [u2_s]⟩, fun z => by first | (exfalso; omega) | exact ⟨by first | exact g5 | (rw [u2_o (by omega)]; exact g5), by (repeat' split) <;> first | (exfalso; omega) | exact u2_s | exact g3⟩⟩) dX6_knowWord_118
          · refine V_al0n dX6_knowWord_96 ?_
            refine V_iconst dX6_knowWord_97 ?_
            refine V_putI kk4 (by decide) fl_X6_18 rfl dX6_knowWord_98 ?_
            refine V_goto (tgt := 118) dX6_knowWord_101 rfl ?_
            exact V_return rfl (fin _ (fun a k z => by first | exact fo a k z | (rw [u2_o (by omega)]; exact fo a k z) | (rw [u2_o (by omega), u2_o (by omega)]; exact fo a k z)) (by first | exact g6 | (rw [u2_o (by omega)]; exact g6) | (rw [u2_o (by omega), u2_o (by omega)]; exact g6)) ⟨fun z => by first | (exfalso; omega) | exact ⟨by rw [u2_o (by omega), u2_s], by rw [u2_s]⟩, fun z => by first | (exfalso; omega) | exact ⟨by first | exact g5 | (rw [u2_o (by omega)]; exact g5), by (repeat' split) <;> first | (exfalso; omega) | exact u2_s | exact g3⟩⟩) dX6_knowWord_118
        · refine V_al0n dX6_knowWord_79 ?_
          refine V_iconst dX6_knowWord_80 ?_
          refine V_putI kk4 (by decide) fl_X6_18 rfl dX6_knowWord_81 ?_
          refine V_goto (tgt := 118) dX6_knowWord_84 rfl ?_
          exact V_return rfl (fin _ (fun a k z => by first | exact fo a k z | (rw [u2_o (by omega)]; exact fo a k z) | (rw [u2_o (by omega), u2_o (by omega)]; exact fo a k z)) (by first | exact g6 | (rw [u2_o (by omega)]; exact g6) | (rw [u2_o (by omega), u2_o (by omega)]; exact g6)) ⟨fun z => by first | (exfalso; omega) | exact ⟨by rw [u2_o (by omega), u2_s], by rw [u2_s]⟩, fun z => by first | (exfalso; omega) | exact ⟨by first | exact g5 | (rw [u2_o (by omega)]; exact g5), by (repeat' split) <;> first | (exfalso; omega) | exact u2_s | exact g3⟩⟩) dX6_knowWord_118
      · refine V_al0n dX6_knowWord_51 ?_
        refine V_iconst dX6_knowWord_52 ?_
        refine V_putI kk4 (by decide) fl_X6_18 rfl dX6_knowWord_53 ?_
        refine V_al0n dX6_knowWord_56 ?_
        refine V_al0n dX6_knowWord_57 ?_
        refine V_getI kk4 (by decide) fl_X6_27 (u2_n (by decide) g6) dX6_knowWord_58 ?_
        refine V_bipush dX6_knowWord_61 rfl ?_
        refine V_isub dX6_knowWord_63 ?_
        refine V_putI kk4 (by decide) fl_X6_24 rfl dX6_knowWord_64 ?_
        refine V_goto (tgt := 118) dX6_knowWord_67 rfl ?_
        exact V_return rfl (fin _ (fun a k z => by first | exact fo a k z | (rw [u2_o (by omega)]; exact fo a k z) | (rw [u2_o (by omega), u2_o (by omega)]; exact fo a k z)) (by first | exact g6 | (rw [u2_o (by omega)]; exact g6) | (rw [u2_o (by omega), u2_o (by omega)]; exact g6)) ⟨fun z => by first | (exfalso; omega) | exact ⟨by rw [u2_o (by omega), u2_s], by rw [u2_s]⟩, fun z => by first | (exfalso; omega) | exact ⟨by first | exact g5 | (rw [u2_o (by omega)]; exact g5), by (repeat' split) <;> first | (exfalso; omega) | exact u2_s | exact g3⟩⟩) dX6_knowWord_118
  have h0 := w_know2 (ρ := ρ) (g := g) rv hw hX h5 0 (by omega) (-1) (Or.inr ⟨fun j hj => by omega, rfl⟩)
  rw [u2_sm h6] at h0
  refine Ct.ofV (by decide) rfl (Nat.le_of_ble_eq_true rfl) ?_
  refine V_iconst dX6_knowWord_0 ?_
  refine V_is1n dX6_knowWord_1 (by decide) rfl ?_
  exact h0
end RN
end CTOK

