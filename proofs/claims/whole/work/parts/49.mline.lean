/-! lines, as the reference reads them: what becomes of its cells -/
theorem tkF_o {f : IT} {b j : Nat} (h : ¬ (b = 104 ∧ 7 ≤ j ∧ j ≤ 10)) : tkF f b j = f b j := by
  unfold tkF st4
  rw [u2_o (by omega), u2_o (by omega), u2_o (by omega), u2_o (by omega)]
theorem tkF_r {f : IT} {b : Nat} (h : b ≠ 104) : tkF f b = f b := funext (fun j => tkF_o (by omega))
/-- kind and which -/
def KwK (f : IT) : Prop := (0 ≤ f 104 8 ∧ f 104 8 ≤ 6) ∧ (-1 ≤ f 104 9 ∧ f 104 9 < 1073741824) ∧ (f 104 8 = 1 → 0 ≤ f 104 9 ∧ f 104 9 ≤ 28) ∧ (f 104 8 = 2 ∨ f 104 8 = 3 → 0 ≤ f 104 9) ∧ (f 104 8 = 5 → 0 ≤ f 104 9 ∧ f 104 9 ≤ 5)
def PK (f : IT) : Prop := TkK f ∧ KwK f
theorem numV_rng {tp : Nat → Int} : ∀ n p v, 0 ≤ v ∧ v ≤ 1000000 → 0 ≤ numV tp n p v ∧ numV tp n p v ≤ 1000000
  | 0, p, v, h => h
  | n + 1, p, v, h => by
    unfold numV
    split
    · rename_i hg
      unfold isG at hg
      simp only [decide_eq_true_eq] at hg
      exact numV_rng n (p + 1) _ (by split <;> omega)
    · exact h
theorem fnd_rng {r : Nat → Int} {o n : Nat} {x : Int} : -1 ≤ fnd r o n x ∧ fnd r o n x < (n : Int) := by
  unfold fnd
  cases hf : (List.range n).find? (fun j => decide (r (o + j) = x)) with
  | none => simp only [Option.elim_none]; omega
  | some j => have := List.mem_of_find?_eq_some hf; simp at this; simp only [Option.elim_some]; omega
theorem wIdx_rng {tp : Nat → Int} {a b : Nat} : -1 ≤ wIdx tp a b ∧ wIdx tp a b ≤ 28 := by
  unfold wIdx
  have := fnd_rng (r := MWf) (o := 0) (n := 29) (x := pkd tp a b)
  split <;> omega
theorem pkd_rng {tp : Nat → Int} {a b : Nat} (hl : ∀ i, a ≤ i → i < b → 97 ≤ tp i ∧ tp i ≤ 122) : 0 ≤ pkd tp a b ∧ pkd tp a b < 1073741824 := by
  have := pkR_rng (d := dgt tp a b) (fun i hi => by
    unfold dgt
    split
    · have := hl (a + i) (by omega) (by omega); omega
    · omega) 6 (by omega)
  rw [pkR6] at this
  exact this
theorem tokT_rng {tp : Nat → Int} {s p : Nat} {w0 : Int} (hp : p ≤ s) (hs : s ≤ 700) (ht : ∀ k, k < 700 → 0 ≤ tp k ∧ tp k ≤ 255) (hw : -1 ≤ w0 ∧ w0 < 1073741824) :
    (p ≤ (tokT tp s p w0).1 ∧ (tokT tp s p w0).1 ≤ (tokT tp s p w0).2.1 ∧ (tokT tp s p w0).2.1 ≤ s) ∧ ((tokT tp s p w0).2.2.1 ≠ 0 → (tokT tp s p w0).1 < (tokT tp s p w0).2.1) ∧ (0 ≤ (tokT tp s p w0).2.2.1 ∧ (tokT tp s p w0).2.2.1 ≤ 6) ∧ (-1 ≤ (tokT tp s p w0).2.2.2 ∧ (tokT tp s p w0).2.2.2 < 1073741824) ∧ ((tokT tp s p w0).2.2.1 = 1 → 0 ≤ (tokT tp s p w0).2.2.2 ∧ (tokT tp s p w0).2.2.2 ≤ 28) ∧ ((tokT tp s p w0).2.2.1 = 2 ∨ (tokT tp s p w0).2.2.1 = 3 → 0 ≤ (tokT tp s p w0).2.2.2) ∧ ((tokT tp s p w0).2.2.1 = 5 → 0 ≤ (tokT tp s p w0).2.2.2 ∧ (tokT tp s p w0).2.2.2 ≤ 5) := by
  have ha := run1_le (P := isW) (tp := tp) (s - p) p
  have ea : tokA tp s p = run1 isW tp (s - p) p := rfl
  rw [← ea] at ha
  unfold tokT
  generalize tokA tp s p = a at *
  by_cases e1 : a = s
  · rw [if_pos e1]
    simp only
    omega
  · rw [if_neg e1]
    by_cases e2 : isL (tp a) = true
    · rw [if_pos e2]
      have hb := run1_le (P := isL) (tp := tp) (s - a) a
      have hi := run1_in (P := isL) (tp := tp) (s - a) a
      have hba : a < run1 isL tp (s - a) a := by
        rw [show s - a = (s - (a + 1)) + 1 by omega, run1, if_pos e2]
        have := run1_le (P := isL) (tp := tp) (s - (a + 1)) (a + 1)
        omega
      generalize run1 isL tp (s - a) a = b at *
      have hw2 := wIdx_rng (tp := tp) (a := a) (b := b)
      have hpk := pkd_rng (tp := tp) (a := a) (b := b) (fun i i1 i2 => by have := hi i i1 i2; unfold isL at this; simpa using this)
      unfold wrdT
      simp only
      generalize wIdx tp a b = w at *
      generalize pkd tp a b = v at *
      refine ⟨by omega, fun _ => hba, ?_, ?_, ?_, ?_, ?_⟩ <;> (repeat' split) <;> omega
    · rw [if_neg e2]
      by_cases e3 : isG (tp a) = true
      · rw [if_pos e3]
        have hb := run1_le (P := isG) (tp := tp) (s - a) a
        have hba : a < run1 isG tp (s - a) a := by
          rw [show s - a = (s - (a + 1)) + 1 by omega, run1, if_pos e3]
          have := run1_le (P := isG) (tp := tp) (s - (a + 1)) (a + 1)
          omega
        have hv := numV_rng (tp := tp) (s - a) a 0 (by omega)
        simp only
        refine ⟨by omega, fun _ => hba, ?_, ?_, ?_, ?_, ?_⟩ <;> omega
      · rw [if_neg e3]
        have h0 := ht a (by omega)
        have hn : nxc tp s a = 0 ∨ a + 1 < s := by
          unfold nxc
          split
          · right; assumption
          · left; rfl
        unfold sgnT sgnC
        simp only
        generalize nxc tp s a = th at *
        generalize tp a = c at *
        refine ⟨?_, ?_, ?_, ?_, ?_, ?_, ?_⟩
        · split <;> omega
        · intro _; split <;> omega
        all_goals (repeat' split) <;> omega
theorem PK.tk {f : IT} (h : PK f) : PK (tkF f) := by
  obtain ⟨⟨k1, k2, ht, hW⟩, kk⟩ := h
  have hr := tokT_rng (tp := f 105) (s := (f 104 6).toNat) (p := (f 104 7).toNat) (w0 := f 104 9) (by omega) (by omega) ht kk.2.1
  have e6 : tkF f 104 6 = f 104 6 := tkF_o (by omega)
  refine ⟨⟨by rw [e6]; exact k1, ?_, by rw [tkF_r (by omega)]; exact ht, by rw [tkF_r (by omega)]; exact hW⟩, ?_⟩
  · rw [e6]
    have e7 : tkF f 104 7 = ((tokT (f 105) (f 104 6).toNat (f 104 7).toNat (f 104 9)).2.1 : Int) := by unfold tkF st4; rw [u2_o (by omega), u2_o (by omega), u2_s]
    rw [e7]
    omega
  · have e8 : tkF f 104 8 = (tokT (f 105) (f 104 6).toNat (f 104 7).toNat (f 104 9)).2.2.1 := by unfold tkF st4; rw [u2_o (by omega), u2_s]
    have e9 : tkF f 104 9 = (tokT (f 105) (f 104 6).toNat (f 104 7).toNat (f 104 9)).2.2.2 := by unfold tkF st4; rw [u2_s]
    unfold KwK
    rw [e8, e9]
    exact hr.2.2
theorem PK.up {f : IT} (h : PK f) {a k : Nat} {x : Int} (h1 : a ≠ 105) (h2 : a ≠ 106) (h3 : a = 104 → k < 6 ∨ 9 < k) : PK (u2 f a k x) := by
  obtain ⟨⟨k1, k2, ht, hW⟩, kk⟩ := h
  refine ⟨⟨?_, ?_, fun j hj => ?_, fun j hj => ?_⟩, ?_⟩
  · rw [u2_o (by omega)]; exact k1
  · rw [u2_o (by omega), u2_o (by omega)]; exact k2
  · rw [u2_o (by omega)]; exact ht j hj
  · rw [u2_o (by omega)]; exact hW j hj
  · unfold KwK
    rw [u2_o (by omega), u2_o (by omega)]
    exact kk
theorem PK.r8 {f : IT} (h : PK f) : ri (f 104 8) ∧ ri (f 104 9) := by
  obtain ⟨-, h1, h2, -⟩ := h
  unfold ri
  omega
theorem c_tok {ρ : RT} {f : IT} {g : JT} (hρ : Fx ρ) (hK : PK f) : C_X12_token [.ref 104] ρ f g (fun r ρ' f' g' => r = none ∧ ρ' = ρ ∧ f' = tkF f ∧ g' = g) := c_token hρ hK.1
def wrg (w : Int) (f : IT) : IT := u2 (u2 f 104 4 w) 104 5 (f 104 10)
def thn (x : Bool × IT) (k : IT → Bool × IT) : Bool × IT := if x.1 = true then k x.2 else (false, x.2)
theorem thn_t {x : Bool × IT} {k : IT → Bool × IT} (h : x.1 = true) : thn x k = k x.2 := by unfold thn; rw [if_pos h]
theorem thn_f {x : Bool × IT} {k : IT → Bool × IT} (h : x.1 = false) : thn x k = (false, x.2) := by unfold thn; rw [h]; rfl
def numF (lo hi : Int) (f : IT) : Bool × IT := if f 104 8 ≠ 3 then (false, wrg 1 f) else if zin (f 104 9) lo hi = true then (true, tkF (u2 f 104 11 (f 104 9))) else (false, wrg 2 f)
theorem c_number {ρ : RT} {f : IT} {g : JT} (hρ : Fx ρ) (hK : PK f) {lo hi : Int} (h1 : ri lo) (h2 : ri hi) : C_X12_number [.ref 104, .int (iz lo), .int (iz hi)] ρ f g (fun r ρ' f' g' => r = some (.int (iz (bz (numF lo hi f).1))) ∧ ρ' = ρ ∧ f' = (numF lo hi f).2 ∧ g' = g) := by
  have h8 := hK.r8
  refine Ct.ofV (by decide) rfl (Nat.le_of_ble_eq_true rfl) ?_
  refine V_al0n dX12_number_0 ?_
  refine V_getI kk104 (by decide) fl_X12_172 rfl dX12_number_1 ?_
  refine V_iconst dX12_number_4 ?_
  refine V_icmp_eq (tgt := 14) dX12_number_5 rfl (by first | exact h8.1 | (unfold ri; omega)) (by first | exact h8.1 | (unfold ri; omega)) (fun b5 => ?_) (fun b5 => ?_)
  · refine V_al0n dX12_number_14 ?_
    refine V_getI kk104 (by decide) fl_X12_183 rfl dX12_number_15 ?_
    refine V_il1n dX12_number_18 ?_
    refine V_il2n dX12_number_19 ?_
    refine V_callS (as := [_, _, _]) ml_X12_199 sm_X12_isIn dX12_number_20 rfl rfl (by decide) (by decide) (Nat.le_of_ble_eq_true rfl) (by decide) (by decide) rfl (c_isIn h8.2 h1 h2) ?_
    refine pq4 ?_
    refine V_bf (tgt := 32) dX12_number_23 rfl (fun b23 => ?_) (fun b23 => ?_)
    · refine V_al0n dX12_number_32 ?_
      refine V_al0n dX12_number_33 ?_
      refine V_getI kk104 (by decide) fl_X12_183 rfl dX12_number_34 ?_
      refine V_putI kk104 (by decide) fl_X12_203 rfl dX12_number_37 ?_
      refine V_al0n dX12_number_40 ?_
      refine V_callV (as := []) ml_X12_206 im_X12_token se_X12_token kk104 (by decide) (by decide) dX12_number_41 rfl rfl (by decide) (by decide) (Nat.le_of_ble_eq_true rfl) (by decide) (by decide) rfl (c_tok hρ (hK.up (by omega) (by omega) (by omega))) ?_
      refine pq4 ?_
      refine V_iconst dX12_number_44 ?_
      exact V_zreturn rfl (by first | exact Or.inl rfl | exact Or.inr rfl | (unfold bz; split <;> simp)) (by unfold numF; rw [if_neg (by omega), if_pos b23]; exact ⟨rfl, rfl, rfl, rfl⟩) dX12_number_45
    · refine V_al0n dX12_number_26 ?_
      refine V_iconst dX12_number_27 ?_
      refine V_callV (as := [_]) ml_X12_196 im_X12_wrong se_X12_wrong kk104 (by decide) (by decide) dX12_number_28 rfl rfl (by decide) (by decide) (Nat.le_of_ble_eq_true rfl) (by decide) (by decide) rfl (c_wrong) ?_
      refine pq4 ?_
      exact V_zreturn rfl (by first | exact Or.inl rfl | exact Or.inr rfl | (unfold bz; split <;> simp)) (by unfold numF; rw [if_neg (by omega), if_neg (by rw [b23]; exact Bool.false_ne_true)]; exact ⟨rfl, rfl, rfl, rfl⟩) dX12_number_31
  · refine V_al0n dX12_number_8 ?_
    refine V_iconst dX12_number_9 ?_
    refine V_callV (as := [_]) ml_X12_196 im_X12_wrong se_X12_wrong kk104 (by decide) (by decide) dX12_number_10 rfl rfl (by decide) (by decide) (Nat.le_of_ble_eq_true rfl) (by decide) (by decide) rfl (c_wrong) ?_
    refine pq4 ?_
    exact V_zreturn rfl (by first | exact Or.inl rfl | exact Or.inr rfl | (unfold bz; split <;> simp)) (by unfold numF; rw [if_pos b5]; exact ⟨rfl, rfl, rfl, rfl⟩) dX12_number_13
def nnF (a o n : Nat) (f : IT) : Bool × IT := if f 104 8 ≠ 2 then (false, wrg 1 f) else if 0 ≤ fnd (f a) o n (f 104 9) then (false, wrg 3 f) else (true, tkF (u2 f a (o + n) (f 104 9)))
theorem c_newName {ρ : RT} {f : IT} {g : JT} (hρ : Fx ρ) (hK : PK f) {a len : Nat} (ha : kd a = (13, len)) (hll : len ≤ 1000) (ha1 : 107 ≤ a) {o n : Nat} (hon : o + n < len) (hr : ∀ k, ri (f a k)) : C_X12_newName [.ref 104, .ref a, .int (iz (o : Int)), .int (iz (n : Int))] ρ f g (fun r ρ' f' g' => r = some (.int (iz (bz (nnF a o n f).1))) ∧ ρ' = ρ ∧ f' = (nnF a o n f).2 ∧ g' = g) := by
  have h8 := hK.r8
  have hfr := fnd_rng (r := f a) (o := o) (n := n) (x := f 104 9)
  have hl2 : len ≤ 2147483647 := by omega
  refine Ct.ofV (by decide) rfl (Nat.le_of_ble_eq_true rfl) ?_
  refine V_al0n dX12_newName_0 ?_
  refine V_getI kk104 (by decide) fl_X12_172 rfl dX12_newName_1 ?_
  refine V_iconst dX12_newName_4 ?_
  refine V_icmp_eq (tgt := 14) dX12_newName_5 rfl (by first | exact h8.1 | (unfold ri; omega)) (by first | exact h8.1 | (unfold ri; omega)) (fun b5 => ?_) (fun b5 => ?_)
  · refine V_al1n dX12_newName_14 ?_
    refine V_il2n dX12_newName_15 ?_
    refine V_il3n dX12_newName_16 ?_
    refine V_al0n dX12_newName_17 ?_
    refine V_getI kk104 (by decide) fl_X12_183 rfl dX12_newName_18 ?_
    refine V_callS (as := [_, _, _, _]) ml_X12_304 sm_X12_find dX12_newName_21 rfl rfl (by decide) (by decide) (Nat.le_of_ble_eq_true rfl) (by decide) (by decide) rfl (c_find ha (by omega) (o := o) (n := n) (by omega) h8.2 (fun j _ => hr _)) ?_
    refine pq4 ?_
    refine V_if_lt (tgt := 33) dX12_newName_24 rfl (by first | assumption | (unfold ri at *; omega)) (fun b24 => ?_) (fun b24 => ?_)
    · refine V_al1n dX12_newName_33 ?_
      refine V_il2n dX12_newName_34 ?_
      refine V_il3n dX12_newName_35 ?_
      refine V_iadd dX12_newName_36 ?_
      refine V_al0n dX12_newName_37 ?_
      refine V_getI kk104 (by decide) fl_X12_183 rfl dX12_newName_38 ?_
      refine V_iast (k := o + n) ha (kdlt ha (by decide)) (by first | rfl | omega) (by omega) (by first | decide | assumption | omega) dX12_newName_41 ?_
      refine V_al0n dX12_newName_42 ?_
      refine V_callV (as := []) ml_X12_206 im_X12_token se_X12_token kk104 (by decide) (by decide) dX12_newName_43 rfl rfl (by decide) (by decide) (Nat.le_of_ble_eq_true rfl) (by decide) (by decide) rfl (c_tok hρ (hK.up (by omega) (by omega) (by omega))) ?_
      refine pq4 ?_
      refine V_iconst dX12_newName_46 ?_
      exact V_zreturn rfl (by first | exact Or.inl rfl | exact Or.inr rfl | (unfold bz; split <;> simp)) (by unfold nnF; rw [if_neg (by omega), if_neg (by omega)]; exact ⟨rfl, rfl, rfl, rfl⟩) dX12_newName_47
    · refine V_al0n dX12_newName_27 ?_
      refine V_iconst dX12_newName_28 ?_
      refine V_callV (as := [_]) ml_X12_196 im_X12_wrong se_X12_wrong kk104 (by decide) (by decide) dX12_newName_29 rfl rfl (by decide) (by decide) (Nat.le_of_ble_eq_true rfl) (by decide) (by decide) rfl (c_wrong) ?_
      refine pq4 ?_
      exact V_zreturn rfl (by first | exact Or.inl rfl | exact Or.inr rfl | (unfold bz; split <;> simp)) (by unfold nnF; rw [if_neg (by omega), if_pos (by omega)]; exact ⟨rfl, rfl, rfl, rfl⟩) dX12_newName_32
  · refine V_al0n dX12_newName_8 ?_
    refine V_iconst dX12_newName_9 ?_
    refine V_callV (as := [_]) ml_X12_196 im_X12_wrong se_X12_wrong kk104 (by decide) (by decide) dX12_newName_10 rfl rfl (by decide) (by decide) (Nat.le_of_ble_eq_true rfl) (by decide) (by decide) rfl (c_wrong) ?_
    refine pq4 ?_
    exact V_zreturn rfl (by first | exact Or.inl rfl | exact Or.inr rfl | (unfold bz; split <;> simp)) (by unfold nnF; rw [if_pos b5]; exact ⟨rfl, rfl, rfl, rfl⟩) dX12_newName_13
theorem PK.num {f : IT} (h : PK f) {lo hi : Int} : PK (numF lo hi f).2 := by
  unfold numF wrg
  (repeat' split)
  · exact (h.up (by omega) (by omega) (by omega)).up (by omega) (by omega) (by omega)
  · exact (h.up (by omega) (by omega) (by omega)).tk
  · exact (h.up (by omega) (by omega) (by omega)).up (by omega) (by omega) (by omega)
theorem PK.nn {f : IT} (h : PK f) {a o n : Nat} (ha : 107 ≤ a) : PK (nnF a o n f).2 := by
  unfold nnF wrg
  (repeat' split)
  · exact (h.up (by omega) (by omega) (by omega)).up (by omega) (by omega) (by omega)
  · exact (h.up (by omega) (by omega) (by omega)).up (by omega) (by omega) (by omega)
  · exact (h.up (by omega) (by omega) (by omega)).tk
theorem numF_o {f : IT} {lo hi : Int} {b j : Nat} (h : ¬ (b = 104 ∧ (j = 4 ∨ j = 5 ∨ 7 ≤ j ∧ j ≤ 11))) : (numF lo hi f).2 b j = f b j := by
  unfold numF wrg
  (repeat' split)
  · simp only; rw [u2_o (by omega), u2_o (by omega)]
  · simp only; rw [tkF_o (by omega), u2_o (by omega)]
  · simp only; rw [u2_o (by omega), u2_o (by omega)]
theorem nnF_o {f : IT} {a o n : Nat} {b j : Nat} (h : ¬ (b = 104 ∧ (j = 4 ∨ j = 5 ∨ 7 ≤ j ∧ j ≤ 11))) (h2 : ¬ (b = a ∧ j = o + n)) : (nnF a o n f).2 b j = f b j := by
  unfold nnF wrg
  (repeat' split)
  · simp only; rw [u2_o (by omega), u2_o (by omega)]
  · simp only; rw [u2_o (by omega), u2_o (by omega)]
  · simp only; rw [tkF_o (by omega), u2_o h2]
/-- what the lines may rely on: names and flags of the rows -/
def RwK (f : IT) : Prop := (∀ k, ri (f 107 k) ∧ ri (f 112 k) ∧ ri (f 116 k) ∧ ri (f 120 k) ∧ ri (f 124 k)) ∧ (∀ k, (f 110 k = 0 ∨ f 110 k = 1) ∧ (f 111 k = 0 ∨ f 111 k = 1) ∧ (f 127 k = 0 ∨ f 127 k = 1)) ∧ (0 ≤ f 104 20 ∧ f 104 20 ≤ 6) ∧ (0 ≤ f 104 21 ∧ f 104 21 ≤ 5) ∧ (0 ≤ f 104 22 ∧ f 104 22 ≤ 3) ∧ (0 ≤ f 104 23 ∧ f 104 23 ≤ 5) ∧ (0 ≤ f 104 24 ∧ f 104 24 ≤ 4) ∧ (f 104 28 = 0 ∨ f 104 28 = 1) ∧ (f 104 29 = 0 ∨ f 104 29 = 1)
def keyT (k : Int) (f : IT) : IT := if keyB k f = true then tkF f else f
def laneN (n : Nat) (f : IT) : Bool × IT := thn (nnF 107 6 n (tkF f)) fun f1 => thn (numF 1 20 f1) fun f2 => thn (numF 0 9 (u2 f2 108 (6 + n) (f2 104 11))) fun f3 => (true, u2 (keyT 9 (u2 (keyT 8 (u2 (u2 f3 109 (6 + n) (f3 104 11)) 110 (6 + n) (bz (keyB 8 f3)))) 111 (6 + n) (bz (keyB 9 (keyT 8 (u2 (u2 f3 109 (6 + n) (f3 104 11)) 110 (6 + n) (bz (keyB 8 f3)))))))) 104 20 ((n : Int) + 1))
def laneF (f : IT) : Bool × IT := if f 104 20 = 6 then (false, wrg 2 f) else laneN (f 104 20).toNat f
theorem keyB_u {k : Int} {f : IT} {a j : Nat} {x : Int} (h : a = 104 → j < 8 ∨ 9 < j) : keyB k (u2 f a j x) = keyB k f := by unfold keyB; rw [u2_o (by omega), u2_o (by omega)]
theorem c_laneLine {ρ : RT} {f : IT} {g : JT} (hρ : Fx ρ) (hK : PK f) (hR : RwK f) : C_X12_laneLine [.ref 104] ρ f g (fun r ρ' f' g' => r = some (.int (iz (bz (laneF f).1))) ∧ ρ' = ρ ∧ f' = (laneF f).2 ∧ g' = g) := by
  obtain ⟨q1, q2, q3, -⟩ := hR
  obtain ⟨n, hn⟩ : ∃ n : Nat, f 104 20 = n := ⟨(f 104 20).toNat, by omega⟩
  refine Ct.ofV (by decide) rfl (Nat.le_of_ble_eq_true rfl) ?_
  by_cases e : n = 6
  · have ea : laneF f = (false, wrg 2 f) := by unfold laneF; rw [if_pos (by omega)]
    rw [ea]
    refine V_al0n dX12_laneLine_0 ?_
    refine V_getI kk104 (by decide) fl_X12_216 hn dX12_laneLine_1 ?_
    refine V_bipush dX12_laneLine_4 rfl ?_
    refine V_icmp_ne (tgt := 15) dX12_laneLine_6 rfl (by first | assumption | (unfold ri at *; omega)) (by first | assumption | (unfold ri at *; omega)) (fun b6 => ?_) (fun b6 => ?_)
    · exfalso; omega
    · refine V_al0n dX12_laneLine_9 ?_
      refine V_iconst dX12_laneLine_10 ?_
      refine V_callV (as := [_]) ml_X12_196 im_X12_wrong se_X12_wrong kk104 (by decide) (by decide) dX12_laneLine_11 rfl rfl (by decide) (by decide) (Nat.le_of_ble_eq_true rfl) (by decide) (by decide) rfl (c_wrong) ?_
      refine pq4 ?_
      exact V_zreturn rfl (by first | exact Or.inl rfl | exact Or.inr rfl | (unfold bz; split <;> simp)) ⟨rfl, rfl, rfl, rfl⟩ dX12_laneLine_14
  · have ea : laneF f = laneN n f := by unfold laneF; rw [if_neg (by omega), hn]; rfl
    unfold laneN at ea
    refine V_al0n dX12_laneLine_0 ?_
    refine V_getI kk104 (by decide) fl_X12_216 hn dX12_laneLine_1 ?_
    refine V_bipush dX12_laneLine_4 rfl ?_
    refine V_icmp_ne (tgt := 15) dX12_laneLine_6 rfl (by first | assumption | (unfold ri at *; omega)) (by first | assumption | (unfold ri at *; omega)) (fun b6 => ?_) (fun b6 => ?_)
    · refine V_al0n dX12_laneLine_15 ?_
      refine V_callV (as := []) ml_X12_206 im_X12_token se_X12_token kk104 (by decide) (by decide) dX12_laneLine_16 rfl rfl (by decide) (by decide) (Nat.le_of_ble_eq_true rfl) (by decide) (by decide) rfl (c_tok hρ hK) ?_
      rintro r16 ρ16 f16 g16 ⟨rfl, s16_0, e16, s16_1⟩
      obtain rfl := s16_0.symm
      obtain rfl := s16_1.symm
      rw [← e16] at ea
      have K16 : PK f16 := by rw [e16]; exact hK.tk
      have o16 : ∀ b j, ¬ (b = 104 ∧ 7 ≤ j ∧ j ≤ 10) → f16 b j = f b j := fun b j h => by rw [e16]; exact tkF_o h
      refine V_bipush dX12_laneLine_19 rfl ?_
      refine V_al0n dX12_laneLine_21 ?_
      refine V_getI kk104 (by decide) fl_X12_216 ((o16 104 20 (by omega)).trans hn) dX12_laneLine_22 ?_
      refine V_iadd dX12_laneLine_25 ?_
      refine V_is1n dX12_laneLine_26 (by decide) rfl ?_
      refine V_al0n dX12_laneLine_27 ?_
      refine V_al0n dX12_laneLine_28 ?_
      refine V_getR kk104 (by decide) fl_X12_20 (fx_104_30 hρ) dX12_laneLine_29 ?_
      refine V_bipush dX12_laneLine_32 rfl ?_
      refine V_al0n dX12_laneLine_34 ?_
      refine V_getI kk104 (by decide) fl_X12_216 ((o16 104 20 (by omega)).trans hn) dX12_laneLine_35 ?_
      refine V_callV (as := [_, _, _]) ml_X12_308 im_X12_newName se_X12_newName kk104 (by decide) (by decide) dX12_laneLine_38 rfl rfl (by decide) (by decide) (Nat.le_of_ble_eq_true rfl) (by decide) (by decide) rfl (c_newName hρ K16 kk107 (by omega) (by omega) (o := 6) (n := n) (by omega) (fun k => by rw [o16 107 k (by omega)]; exact (q1 k).1)) ?_
      rintro r38 ρ38 f38 g38 ⟨rfl, s38_0, e38, s38_1⟩
      obtain rfl := s38_0.symm
      obtain rfl := s38_1.symm
      refine V_bt (tgt := 54) dX12_laneLine_41 rfl (fun b41 => ?_) (fun b41 => ?_)
      · rw [thn_f b41] at ea
        refine V_iconst dX12_laneLine_54 ?_
        exact V_zreturn rfl (by first | exact Or.inl rfl | exact Or.inr rfl | (unfold bz; split <;> simp)) ⟨by rw [ea]; rfl, rfl, by rw [ea]; first | exact e38 | exact e48, rfl⟩ dX12_laneLine_55
      · rw [thn_t b41, ← e38] at ea
        have K38 : PK f38 := by rw [e38]; exact K16.nn (by omega)
        refine V_al0n dX12_laneLine_44 ?_
        refine V_iconst dX12_laneLine_45 ?_
        refine V_bipush dX12_laneLine_46 rfl ?_
        refine V_callV (as := [_, _]) ml_X12_212 im_X12_number se_X12_number kk104 (by decide) (by decide) dX12_laneLine_48 rfl rfl (by decide) (by decide) (Nat.le_of_ble_eq_true rfl) (by decide) (by decide) rfl (c_number hρ K38 (lo := 1) (hi := 20) (by unfold ri; omega) (by unfold ri; omega)) ?_
        rintro r48 ρ48 f48 g48 ⟨rfl, s48_0, e48, s48_1⟩
        obtain rfl := s48_0.symm
        obtain rfl := s48_1.symm
        refine V_bf (tgt := 56) dX12_laneLine_51 rfl (fun b51 => ?_) (fun b51 => ?_)
        · rw [thn_t b51, ← e48] at ea
          have K48 : PK f48 := by rw [e48]; exact K38.num
          have K48' : PK (u2 f48 108 (6 + n) (f48 104 11)) := K48.up (by omega) (by omega) (by omega)
          refine V_al0n dX12_laneLine_56 ?_
          refine V_getR kk104 (by decide) fl_X12_23 (fx_104_31 hρ) dX12_laneLine_57 ?_
          refine V_il1n dX12_laneLine_60 ?_
          refine V_al0n dX12_laneLine_61 ?_
          refine V_getI kk104 (by decide) fl_X12_203 rfl dX12_laneLine_62 ?_
          refine V_iast (k := 6 + n) kk108 (by decide) (by first | rfl | omega) (by omega) (by first | decide | assumption | omega) dX12_laneLine_65 ?_
          refine V_al0n dX12_laneLine_66 ?_
          refine V_iconst dX12_laneLine_67 ?_
          refine V_bipush dX12_laneLine_68 rfl ?_
          refine V_callV (as := [_, _]) ml_X12_212 im_X12_number se_X12_number kk104 (by decide) (by decide) dX12_laneLine_70 rfl rfl (by decide) (by decide) (Nat.le_of_ble_eq_true rfl) (by decide) (by decide) rfl (c_number hρ K48' (lo := 0) (hi := 9) (by unfold ri; omega) (by unfold ri; omega)) ?_
          rintro r70 ρ70 f70 g70 ⟨rfl, s70_0, e70, s70_1⟩
          obtain rfl := s70_0.symm
          obtain rfl := s70_1.symm
          refine V_bf (tgt := 78) dX12_laneLine_73 rfl (fun b73 => ?_) (fun b73 => ?_)
          · rw [thn_t b73, ← e70] at ea
            have K70 : PK f70 := by rw [e70]; exact K48'.num
            have K70' : PK (u2 f70 109 (6 + n) (f70 104 11)) := K70.up (by omega) (by omega) (by omega)
            have o70 : ∀ b j, ¬ (b = 104 ∧ (j = 4 ∨ j = 5 ∨ 7 ≤ j ∧ j ≤ 11)) → b ≠ 107 → b ≠ 108 → f70 b j = f b j := fun b j h h2 h3 => by rw [e70, numF_o h, u2_o (by omega), e48, numF_o h, e38, nnF_o h (by omega), o16 b j (by omega)]
            refine V_al0n dX12_laneLine_78 ?_
            refine V_getR kk104 (by decide) fl_X12_26 (fx_104_32 hρ) dX12_laneLine_79 ?_
            refine V_il1n dX12_laneLine_82 ?_
            refine V_al0n dX12_laneLine_83 ?_
            refine V_getI kk104 (by decide) fl_X12_203 rfl dX12_laneLine_84 ?_
            refine V_iast (k := 6 + n) kk109 (by decide) (by first | rfl | omega) (by omega) (by first | decide | assumption | omega) dX12_laneLine_87 ?_
            refine V_al0n dX12_laneLine_88 ?_
            refine V_getR kk104 (by decide) fl_X12_29 (fx_104_33 hρ) dX12_laneLine_89 ?_
            refine V_il1n dX12_laneLine_92 ?_
            refine V_al0n dX12_laneLine_93 ?_
            refine V_bipush dX12_laneLine_94 rfl ?_
            refine V_callV (as := [_]) ml_X12_312 im_X12_isKey se_X12_isKey kk104 (by decide) (by decide) dX12_laneLine_96 rfl rfl (by decide) (by decide) (Nat.le_of_ble_eq_true rfl) (by decide) (by decide) rfl (c_isKey (k := 8) (by unfold ri; omega) K70'.r8.1 K70'.r8.2) ?_
            refine pq4 ?_
            rw [keyB_u (by omega)]
            refine V_zast (k := 6 + n) kk110 (by decide) (by first | rfl | omega) (by omega) (by first | decide | assumption | omega) (by first | exact Or.inl rfl | exact Or.inr rfl | (unfold bz; split <;> simp)) dX12_laneLine_99 ?_
            have K96 : PK (u2 (u2 f70 109 (6 + n) (f70 104 11)) 110 (6 + n) (bz (keyB 8 f70))) := K70'.up (by omega) (by omega) (by omega)
            generalize e96 : u2 (u2 f70 109 (6 + n) (f70 104 11)) 110 (6 + n) (bz (keyB 8 f70)) = f96 at *
            have ek8 : keyB 8 f96 = keyB 8 f70 := by rw [← e96, keyB_u (by omega), keyB_u (by omega)]
            have key : ∀ f9 : IT, f9 = keyT 8 f96 → V_X12_laneLine (fun r ρ' f' g' => r = some (.int (iz (bz (laneF f).1))) ∧ ρ' = ρ ∧ f' = (laneF f).2 ∧ g' = g) 113 [.ref 104, .int (iz ((6 : Int) + n))] [] ρ f9 g := by
              intro f9 e9
              rw [← e9] at ea
              have K9 : PK f9 := by rw [e9]; unfold keyT; split; exact K96.tk; exact K96
              have n9 : f9 104 20 = (n : Int) := by rw [e9]; unfold keyT; split; (rw [tkF_o (by omega), ← e96, u2_o (by omega), u2_o (by omega), o70 104 20 (by omega) (by omega) (by omega)]; exact hn); (rw [← e96, u2_o (by omega), u2_o (by omega), o70 104 20 (by omega) (by omega) (by omega)]; exact hn)
              refine V_al0n dX12_laneLine_113 ?_
              refine V_getR kk104 (by decide) fl_X12_33 (fx_104_34 hρ) dX12_laneLine_114 ?_
              refine V_il1n dX12_laneLine_117 ?_
              refine V_al0n dX12_laneLine_118 ?_
              refine V_bipush dX12_laneLine_119 rfl ?_
              refine V_callV (as := [_]) ml_X12_312 im_X12_isKey se_X12_isKey kk104 (by decide) (by decide) dX12_laneLine_121 rfl rfl (by decide) (by decide) (Nat.le_of_ble_eq_true rfl) (by decide) (by decide) rfl (c_isKey (k := 9) (by unfold ri; omega) K9.r8.1 K9.r8.2) ?_
              refine pq4 ?_
              refine V_zast (k := 6 + n) kk111 (by decide) (by omega) (by omega) (by first | decide | assumption) (by unfold bz; split <;> simp) dX12_laneLine_124 ?_
              have K121 : PK (u2 f9 111 (6 + n) (bz (keyB 9 f9))) := K9.up (by omega) (by omega) (by omega)
              have ek9 : keyB 9 (u2 f9 111 (6 + n) (bz (keyB 9 f9))) = keyB 9 f9 := keyB_u (by omega)
              have n121 : (u2 f9 111 (6 + n) (bz (keyB 9 f9))) 104 20 = (n : Int) := (u2_o (by omega)).trans n9
              have r121 : (u2 f9 111 (6 + n) (bz (keyB 9 f9))) 111 (6 + n) = bz (keyB 9 f9) := u2_s
              generalize e121 : u2 f9 111 (6 + n) (bz (keyB 9 f9)) = f121 at *
              refine V_al0n dX12_laneLine_125 ?_
              refine V_getR kk104 (by decide) fl_X12_33 (fx_104_34 hρ) dX12_laneLine_126 ?_
              refine V_il1n dX12_laneLine_129 ?_
              refine V_zald (k := 6 + n) kk111 (by decide) (by omega) (by omega) (by first | decide | assumption) r121 dX12_laneLine_130 ?_
              refine V_bt (tgt := 138) dX12_laneLine_131 rfl (fun b131 => ?_) (fun b131 => ?_)
              · have e3 : keyT 9 f121 = f121 := by unfold keyT; rw [ek9, if_neg (by rw [b131]; exact Bool.false_ne_true)]
                rw [e3] at ea
                refine V_al0n dX12_laneLine_138 ?_
                refine V_dup dX12_laneLine_139 rfl ?_
                refine V_getI kk104 (by decide) fl_X12_216 n121 dX12_laneLine_140 ?_
                refine V_iconst dX12_laneLine_143 ?_
                refine V_iadd dX12_laneLine_144 ?_
                refine V_putI kk104 (by decide) fl_X12_216 rfl dX12_laneLine_145 ?_
                refine V_iconst dX12_laneLine_148 ?_
                exact V_zreturn rfl (Or.inr rfl) ⟨by rw [ea]; rfl, rfl, by rw [ea], rfl⟩ dX12_laneLine_149
              · have e3 : keyT 9 f121 = tkF f121 := by unfold keyT; rw [ek9, if_pos b131]
                rw [e3] at ea
                refine V_al0n dX12_laneLine_134 ?_
                refine V_callV (as := []) ml_X12_206 im_X12_token se_X12_token kk104 (by decide) (by decide) dX12_laneLine_135 rfl rfl (by decide) (by decide) (Nat.le_of_ble_eq_true rfl) (by decide) (by decide) rfl (c_tok hρ K121) ?_
                refine pq4 ?_
                refine V_al0n dX12_laneLine_138 ?_
                refine V_dup dX12_laneLine_139 rfl ?_
                refine V_getI kk104 (by decide) fl_X12_216 ((tkF_o (by omega)).trans n121) dX12_laneLine_140 ?_
                refine V_iconst dX12_laneLine_143 ?_
                refine V_iadd dX12_laneLine_144 ?_
                refine V_putI kk104 (by decide) fl_X12_216 rfl dX12_laneLine_145 ?_
                refine V_iconst dX12_laneLine_148 ?_
                exact V_zreturn rfl (Or.inr rfl) ⟨by rw [ea]; rfl, rfl, by rw [ea], rfl⟩ dX12_laneLine_149
            refine V_al0n dX12_laneLine_100 ?_
            refine V_getR kk104 (by decide) fl_X12_29 (fx_104_33 hρ) dX12_laneLine_101 ?_
            refine V_il1n dX12_laneLine_104 ?_
            refine V_zald (k := 6 + n) kk110 (by decide) (by first | rfl | omega) (by omega) (by first | decide | assumption | omega) (show f96 110 (6 + n) = bz (keyB 8 f70) by rw [← e96]; exact u2_s) dX12_laneLine_105 ?_
            refine V_bt (tgt := 113) dX12_laneLine_106 rfl (fun b106 => ?_) (fun b106 => ?_)
            · exact key f96 (by unfold keyT; rw [ek8, if_neg (by rw [b106]; exact Bool.false_ne_true)])
            · refine V_al0n dX12_laneLine_109 ?_
              refine V_callV (as := []) ml_X12_206 im_X12_token se_X12_token kk104 (by decide) (by decide) dX12_laneLine_110 rfl rfl (by decide) (by decide) (Nat.le_of_ble_eq_true rfl) (by decide) (by decide) rfl (c_tok hρ K96) ?_
              refine pq4 ?_
              exact key (tkF f96) (by unfold keyT; rw [ek8, if_pos b106])
          · rw [thn_f b73] at ea
            refine V_iconst dX12_laneLine_76 ?_
            exact V_zreturn rfl (by first | exact Or.inl rfl | exact Or.inr rfl | (unfold bz; split <;> simp)) ⟨by rw [ea]; rfl, rfl, by rw [ea]; exact e70, rfl⟩ dX12_laneLine_77
        · rw [thn_f b51] at ea
          refine V_iconst dX12_laneLine_54 ?_
          exact V_zreturn rfl (by first | exact Or.inl rfl | exact Or.inr rfl | (unfold bz; split <;> simp)) ⟨by rw [ea]; rfl, rfl, by rw [ea]; first | exact e38 | exact e48, rfl⟩ dX12_laneLine_55
    · exfalso; omega
def manN (n : Nat) (f : IT) : Bool × IT := thn (nnF 112 5 n (tkF f)) fun f1 => thn (numF 1 60 f1) fun f2 => thn (numF 1 40 (u2 f2 113 (5 + n) (f2 104 11))) fun f3 => thn (numF 1 30 (u2 f3 114 (5 + n) (f3 104 11))) fun f4 => (true, u2 (u2 f4 115 (5 + n) (f4 104 11)) 104 21 ((n : Int) + 1))
def manF (f : IT) : Bool × IT := if f 104 21 = 5 then (false, wrg 2 f) else manN (f 104 21).toNat f
theorem c_manLine {ρ : RT} {f : IT} {g : JT} (hρ : Fx ρ) (hK : PK f) (hR : RwK f) : C_X12_manLine [.ref 104] ρ f g (fun r ρ' f' g' => r = some (.int (iz (bz (manF f).1))) ∧ ρ' = ρ ∧ f' = (manF f).2 ∧ g' = g) := by
  obtain ⟨q1, q2, q20, q21, q22, q23, q24, -⟩ := hR
  obtain ⟨n, hn⟩ : ∃ n : Nat, f 104 21 = n := ⟨(f 104 21).toNat, by omega⟩
  refine Ct.ofV (by decide) rfl (Nat.le_of_ble_eq_true rfl) ?_
  by_cases e : n = 5
  · have ea : manF f = (false, wrg 2 f) := by unfold manF; rw [if_pos (by omega)]
    rw [ea]
    refine V_al0n dX12_manLine_0 ?_
    refine V_getI kk104 (by decide) fl_X12_219 hn dX12_manLine_1 ?_
    refine V_iconst dX12_manLine_4 ?_
    refine V_icmp_ne (tgt := 14) dX12_manLine_5 rfl (by first | assumption | (unfold ri at *; omega)) (by first | assumption | (unfold ri at *; omega)) (fun b5 => ?_) (fun b5 => ?_)
    · exfalso; omega
    · refine V_al0n dX12_manLine_8 ?_
      refine V_iconst dX12_manLine_9 ?_
      refine V_callV (as := [_]) ml_X12_196 im_X12_wrong se_X12_wrong kk104 (by decide) (by decide) dX12_manLine_10 rfl rfl (by decide) (by decide) (Nat.le_of_ble_eq_true rfl) (by decide) (by decide) rfl (c_wrong) ?_
      refine pq4 ?_
      exact V_zreturn rfl (by first | exact Or.inl rfl | exact Or.inr rfl | (unfold bz; split <;> simp)) ⟨rfl, rfl, rfl, rfl⟩ dX12_manLine_13
  · have ea : manF f = manN n f := by unfold manF; rw [if_neg (by omega), hn]; rfl
    unfold manN at ea
    refine V_al0n dX12_manLine_0 ?_
    refine V_getI kk104 (by decide) fl_X12_219 hn dX12_manLine_1 ?_
    refine V_iconst dX12_manLine_4 ?_
    refine V_icmp_ne (tgt := 14) dX12_manLine_5 rfl (by first | assumption | (unfold ri at *; omega)) (by first | assumption | (unfold ri at *; omega)) (fun b5 => ?_) (fun b5 => ?_)
    · refine V_al0n dX12_manLine_14 ?_
      refine V_callV (as := []) ml_X12_206 im_X12_token se_X12_token kk104 (by decide) (by decide) dX12_manLine_15 rfl rfl (by decide) (by decide) (Nat.le_of_ble_eq_true rfl) (by decide) (by decide) rfl (c_tok hρ hK) ?_
      rintro r15 ρ15 f15 g15 ⟨rfl, s15_0, e15, s15_1⟩
      obtain rfl := s15_0.symm
      obtain rfl := s15_1.symm
      rw [← e15] at ea
      have K15 : PK f15 := by rw [e15]; exact hK.tk
      have o15 : ∀ b j, ¬ (b = 104 ∧ 7 ≤ j ∧ j ≤ 10) → f15 b j = f b j := fun b j h => by rw [e15]; exact tkF_o h
      refine V_iconst dX12_manLine_18 ?_
      refine V_al0n dX12_manLine_19 ?_
      refine V_getI kk104 (by decide) fl_X12_219 ((o15 104 21 (by omega)).trans hn) dX12_manLine_20 ?_
      refine V_iadd dX12_manLine_23 ?_
      refine V_is1n dX12_manLine_24 (by decide) rfl ?_
      refine V_al0n dX12_manLine_25 ?_
      refine V_al0n dX12_manLine_26 ?_
      refine V_getR kk104 (by decide) fl_X12_36 (fx_104_35 hρ) dX12_manLine_27 ?_
      refine V_iconst dX12_manLine_30 ?_
      refine V_al0n dX12_manLine_31 ?_
      refine V_getI kk104 (by decide) fl_X12_219 ((o15 104 21 (by omega)).trans hn) dX12_manLine_32 ?_
      refine V_callV (as := [_, _, _]) ml_X12_308 im_X12_newName se_X12_newName kk104 (by decide) (by decide) dX12_manLine_35 rfl rfl (by decide) (by decide) (Nat.le_of_ble_eq_true rfl) (by decide) (by decide) rfl (c_newName hρ K15 kk112 (by omega) (by omega) (o := 5) (n := n) (by omega) (fun k => by rw [o15 112 k (by omega)]; exact (q1 k).2.1)) ?_
      rintro r35 ρ35 f35 g35 ⟨rfl, s35_0, e35, s35_1⟩
      obtain rfl := s35_0.symm
      obtain rfl := s35_1.symm
      refine V_bt (tgt := 51) dX12_manLine_38 rfl (fun b38 => ?_) (fun b38 => ?_)
      · rw [thn_f b38] at ea
        refine V_iconst dX12_manLine_51 ?_
        exact V_zreturn rfl (by first | exact Or.inl rfl | exact Or.inr rfl | (unfold bz; split <;> simp)) ⟨by rw [ea]; rfl, rfl, by rw [ea]; first | exact e35 | exact e45, rfl⟩ dX12_manLine_52
      · rw [thn_t b38, ← e35] at ea
        have K35 : PK f35 := by rw [e35]; exact K15.nn (by omega)
        have o35 : f35 104 21 = (n : Int) := by rw [e35, nnF_o (by omega) (by omega), o15 104 21 (by omega)]; exact hn
        refine V_al0n dX12_manLine_41 ?_
        refine V_iconst dX12_manLine_42 ?_
        refine V_bipush dX12_manLine_43 rfl ?_
        refine V_callV (as := [_, _]) ml_X12_212 im_X12_number se_X12_number kk104 (by decide) (by decide) dX12_manLine_45 rfl rfl (by decide) (by decide) (Nat.le_of_ble_eq_true rfl) (by decide) (by decide) rfl (c_number hρ K35 (lo := 1) (hi := 60) (by unfold ri; omega) (by unfold ri; omega)) ?_
        rintro r45 ρ45 f45 g45 ⟨rfl, s45_0, e45, s45_1⟩
        obtain rfl := s45_0.symm
        obtain rfl := s45_1.symm
        refine V_bf (tgt := 53) dX12_manLine_48 rfl (fun b48 => ?_) (fun b48 => ?_)
        · rw [thn_t b48, ← e45] at ea
          have K45 : PK (u2 f45 113 (5 + n) (f45 104 11)) := (show PK f45 by rw [e45]; exact K35.num).up (by omega) (by omega) (by omega)
          have o45 : (u2 f45 113 (5 + n) (f45 104 11)) 104 21 = (n : Int) := by rw [u2_o (by omega), e45, numF_o (by omega)]; exact o35
          refine V_al0n dX12_manLine_53 ?_
          refine V_getR kk104 (by decide) fl_X12_39 (fx_104_36 hρ) dX12_manLine_54 ?_
          refine V_il1n dX12_manLine_57 ?_
          refine V_al0n dX12_manLine_58 ?_
          refine V_getI kk104 (by decide) fl_X12_203 rfl dX12_manLine_59 ?_
          refine V_iast (k := 5 + n) kk113 (by decide) (by first | rfl | omega) (by omega) (by first | decide | assumption | omega) dX12_manLine_62 ?_
          refine V_al0n dX12_manLine_63 ?_
          refine V_iconst dX12_manLine_64 ?_
          refine V_bipush dX12_manLine_65 rfl ?_
          refine V_callV (as := [_, _]) ml_X12_212 im_X12_number se_X12_number kk104 (by decide) (by decide) dX12_manLine_67 rfl rfl (by decide) (by decide) (Nat.le_of_ble_eq_true rfl) (by decide) (by decide) rfl (c_number hρ K45 (lo := 1) (hi := 40) (by unfold ri; omega) (by unfold ri; omega)) ?_
          rintro r67 ρ67 f67 g67 ⟨rfl, s67_0, e67, s67_1⟩
          obtain rfl := s67_0.symm
          obtain rfl := s67_1.symm
          refine V_bf (tgt := 75) dX12_manLine_70 rfl (fun b70 => ?_) (fun b70 => ?_)
          · rw [thn_t b70, ← e67] at ea
            have K67 : PK (u2 f67 114 (5 + n) (f67 104 11)) := (show PK f67 by rw [e67]; exact K45.num).up (by omega) (by omega) (by omega)
            have o67 : (u2 f67 114 (5 + n) (f67 104 11)) 104 21 = (n : Int) := by rw [u2_o (by omega), e67, numF_o (by omega)]; exact o45
            refine V_al0n dX12_manLine_75 ?_
            refine V_getR kk104 (by decide) fl_X12_42 (fx_104_37 hρ) dX12_manLine_76 ?_
            refine V_il1n dX12_manLine_79 ?_
            refine V_al0n dX12_manLine_80 ?_
            refine V_getI kk104 (by decide) fl_X12_203 rfl dX12_manLine_81 ?_
            refine V_iast (k := 5 + n) kk114 (by decide) (by first | rfl | omega) (by omega) (by first | decide | assumption | omega) dX12_manLine_84 ?_
            refine V_al0n dX12_manLine_85 ?_
            refine V_iconst dX12_manLine_86 ?_
            refine V_bipush dX12_manLine_87 rfl ?_
            refine V_callV (as := [_, _]) ml_X12_212 im_X12_number se_X12_number kk104 (by decide) (by decide) dX12_manLine_89 rfl rfl (by decide) (by decide) (Nat.le_of_ble_eq_true rfl) (by decide) (by decide) rfl (c_number hρ K67 (lo := 1) (hi := 30) (by unfold ri; omega) (by unfold ri; omega)) ?_
            rintro r89 ρ89 f89 g89 ⟨rfl, s89_0, e89, s89_1⟩
            obtain rfl := s89_0.symm
            obtain rfl := s89_1.symm
            refine V_bf (tgt := 97) dX12_manLine_92 rfl (fun b92 => ?_) (fun b92 => ?_)
            · rw [thn_t b92, ← e89] at ea
              have K89 : PK (u2 f89 115 (5 + n) (f89 104 11)) := (show PK f89 by rw [e89]; exact K67.num).up (by omega) (by omega) (by omega)
              have o89 : (u2 f89 115 (5 + n) (f89 104 11)) 104 21 = (n : Int) := by rw [u2_o (by omega), e89, numF_o (by omega)]; exact o67
              refine V_al0n dX12_manLine_97 ?_
              refine V_getR kk104 (by decide) fl_X12_45 (fx_104_38 hρ) dX12_manLine_98 ?_
              refine V_il1n dX12_manLine_101 ?_
              refine V_al0n dX12_manLine_102 ?_
              refine V_getI kk104 (by decide) fl_X12_203 rfl dX12_manLine_103 ?_
              refine V_iast (k := 5 + n) kk115 (by decide) (by first | rfl | omega) (by omega) (by first | decide | assumption | omega) dX12_manLine_106 ?_
              refine V_al0n dX12_manLine_107 ?_
              refine V_dup dX12_manLine_108 rfl ?_
              refine V_getI kk104 (by decide) fl_X12_219 o89 dX12_manLine_109 ?_
              refine V_iconst dX12_manLine_112 ?_
              refine V_iadd dX12_manLine_113 ?_
              refine V_putI kk104 (by decide) fl_X12_219 rfl dX12_manLine_114 ?_
              refine V_iconst dX12_manLine_117 ?_
              exact V_zreturn rfl (by first | exact Or.inl rfl | exact Or.inr rfl | (unfold bz; split <;> simp)) ⟨by rw [ea]; rfl, rfl, by rw [ea], rfl⟩ dX12_manLine_118
            · rw [thn_f b92] at ea
              refine V_iconst dX12_manLine_95 ?_
              exact V_zreturn rfl (by first | exact Or.inl rfl | exact Or.inr rfl | (unfold bz; split <;> simp)) ⟨by rw [ea]; rfl, rfl, by rw [ea]; exact e89, rfl⟩ dX12_manLine_96
          · rw [thn_f b70] at ea
            refine V_iconst dX12_manLine_73 ?_
            exact V_zreturn rfl (by first | exact Or.inl rfl | exact Or.inr rfl | (unfold bz; split <;> simp)) ⟨by rw [ea]; rfl, rfl, by rw [ea]; exact e67, rfl⟩ dX12_manLine_74
        · rw [thn_f b48] at ea
          refine V_iconst dX12_manLine_51 ?_
          exact V_zreturn rfl (by first | exact Or.inl rfl | exact Or.inr rfl | (unfold bz; split <;> simp)) ⟨by rw [ea]; rfl, rfl, by rw [ea]; first | exact e35 | exact e45, rfl⟩ dX12_manLine_52
    · exfalso; omega
def holdN (n : Nat) (f : IT) : Bool × IT := thn (nnF 116 3 n (tkF f)) fun f1 => thn (numF 0 9 f1) fun f2 => thn (numF 0 99 (u2 f2 117 (3 + n) (f2 104 11))) fun f3 => thn (numF 0 99 (u2 f3 118 (3 + n) (f3 104 11))) fun f4 => (true, u2 (u2 f4 119 (3 + n) (f4 104 11)) 104 22 ((n : Int) + 1))
def holdF (f : IT) : Bool × IT := if f 104 22 = 3 then (false, wrg 2 f) else holdN (f 104 22).toNat f
theorem c_holdLine {ρ : RT} {f : IT} {g : JT} (hρ : Fx ρ) (hK : PK f) (hR : RwK f) : C_X12_holdLine [.ref 104] ρ f g (fun r ρ' f' g' => r = some (.int (iz (bz (holdF f).1))) ∧ ρ' = ρ ∧ f' = (holdF f).2 ∧ g' = g) := by
  obtain ⟨q1, q2, q20, q21, q22, q23, q24, -⟩ := hR
  obtain ⟨n, hn⟩ : ∃ n : Nat, f 104 22 = n := ⟨(f 104 22).toNat, by omega⟩
  refine Ct.ofV (by decide) rfl (Nat.le_of_ble_eq_true rfl) ?_
  by_cases e : n = 3
  · have ea : holdF f = (false, wrg 2 f) := by unfold holdF; rw [if_pos (by omega)]
    rw [ea]
    refine V_al0n dX12_holdLine_0 ?_
    refine V_getI kk104 (by decide) fl_X12_222 hn dX12_holdLine_1 ?_
    refine V_iconst dX12_holdLine_4 ?_
    refine V_icmp_ne (tgt := 14) dX12_holdLine_5 rfl (by first | assumption | (unfold ri at *; omega)) (by first | assumption | (unfold ri at *; omega)) (fun b5 => ?_) (fun b5 => ?_)
    · exfalso; omega
    · refine V_al0n dX12_holdLine_8 ?_
      refine V_iconst dX12_holdLine_9 ?_
      refine V_callV (as := [_]) ml_X12_196 im_X12_wrong se_X12_wrong kk104 (by decide) (by decide) dX12_holdLine_10 rfl rfl (by decide) (by decide) (Nat.le_of_ble_eq_true rfl) (by decide) (by decide) rfl (c_wrong) ?_
      refine pq4 ?_
      exact V_zreturn rfl (by first | exact Or.inl rfl | exact Or.inr rfl | (unfold bz; split <;> simp)) ⟨rfl, rfl, rfl, rfl⟩ dX12_holdLine_13
  · have ea : holdF f = holdN n f := by unfold holdF; rw [if_neg (by omega), hn]; rfl
    unfold holdN at ea
    refine V_al0n dX12_holdLine_0 ?_
    refine V_getI kk104 (by decide) fl_X12_222 hn dX12_holdLine_1 ?_
    refine V_iconst dX12_holdLine_4 ?_
    refine V_icmp_ne (tgt := 14) dX12_holdLine_5 rfl (by first | assumption | (unfold ri at *; omega)) (by first | assumption | (unfold ri at *; omega)) (fun b5 => ?_) (fun b5 => ?_)
    · refine V_al0n dX12_holdLine_14 ?_
      refine V_callV (as := []) ml_X12_206 im_X12_token se_X12_token kk104 (by decide) (by decide) dX12_holdLine_15 rfl rfl (by decide) (by decide) (Nat.le_of_ble_eq_true rfl) (by decide) (by decide) rfl (c_tok hρ hK) ?_
      rintro r15 ρ15 f15 g15 ⟨rfl, s15_0, e15, s15_1⟩
      obtain rfl := s15_0.symm
      obtain rfl := s15_1.symm
      rw [← e15] at ea
      have K15 : PK f15 := by rw [e15]; exact hK.tk
      have o15 : ∀ b j, ¬ (b = 104 ∧ 7 ≤ j ∧ j ≤ 10) → f15 b j = f b j := fun b j h => by rw [e15]; exact tkF_o h
      refine V_iconst dX12_holdLine_18 ?_
      refine V_al0n dX12_holdLine_19 ?_
      refine V_getI kk104 (by decide) fl_X12_222 ((o15 104 22 (by omega)).trans hn) dX12_holdLine_20 ?_
      refine V_iadd dX12_holdLine_23 ?_
      refine V_is1n dX12_holdLine_24 (by decide) rfl ?_
      refine V_al0n dX12_holdLine_25 ?_
      refine V_al0n dX12_holdLine_26 ?_
      refine V_getR kk104 (by decide) fl_X12_48 (fx_104_39 hρ) dX12_holdLine_27 ?_
      refine V_iconst dX12_holdLine_30 ?_
      refine V_al0n dX12_holdLine_31 ?_
      refine V_getI kk104 (by decide) fl_X12_222 ((o15 104 22 (by omega)).trans hn) dX12_holdLine_32 ?_
      refine V_callV (as := [_, _, _]) ml_X12_308 im_X12_newName se_X12_newName kk104 (by decide) (by decide) dX12_holdLine_35 rfl rfl (by decide) (by decide) (Nat.le_of_ble_eq_true rfl) (by decide) (by decide) rfl (c_newName hρ K15 kk116 (by omega) (by omega) (o := 3) (n := n) (by omega) (fun k => by rw [o15 116 k (by omega)]; exact (q1 k).2.2.1)) ?_
      rintro r35 ρ35 f35 g35 ⟨rfl, s35_0, e35, s35_1⟩
      obtain rfl := s35_0.symm
      obtain rfl := s35_1.symm
      refine V_bt (tgt := 51) dX12_holdLine_38 rfl (fun b38 => ?_) (fun b38 => ?_)
      · rw [thn_f b38] at ea
        refine V_iconst dX12_holdLine_51 ?_
        exact V_zreturn rfl (by first | exact Or.inl rfl | exact Or.inr rfl | (unfold bz; split <;> simp)) ⟨by rw [ea]; rfl, rfl, by rw [ea]; first | exact e35 | exact e45, rfl⟩ dX12_holdLine_52
      · rw [thn_t b38, ← e35] at ea
        have K35 : PK f35 := by rw [e35]; exact K15.nn (by omega)
        have o35 : f35 104 22 = (n : Int) := by rw [e35, nnF_o (by omega) (by omega), o15 104 22 (by omega)]; exact hn
        refine V_al0n dX12_holdLine_41 ?_
        refine V_iconst dX12_holdLine_42 ?_
        refine V_bipush dX12_holdLine_43 rfl ?_
        refine V_callV (as := [_, _]) ml_X12_212 im_X12_number se_X12_number kk104 (by decide) (by decide) dX12_holdLine_45 rfl rfl (by decide) (by decide) (Nat.le_of_ble_eq_true rfl) (by decide) (by decide) rfl (c_number hρ K35 (lo := 0) (hi := 9) (by unfold ri; omega) (by unfold ri; omega)) ?_
        rintro r45 ρ45 f45 g45 ⟨rfl, s45_0, e45, s45_1⟩
        obtain rfl := s45_0.symm
        obtain rfl := s45_1.symm
        refine V_bf (tgt := 53) dX12_holdLine_48 rfl (fun b48 => ?_) (fun b48 => ?_)
        · rw [thn_t b48, ← e45] at ea
          have K45 : PK (u2 f45 117 (3 + n) (f45 104 11)) := (show PK f45 by rw [e45]; exact K35.num).up (by omega) (by omega) (by omega)
          have o45 : (u2 f45 117 (3 + n) (f45 104 11)) 104 22 = (n : Int) := by rw [u2_o (by omega), e45, numF_o (by omega)]; exact o35
          refine V_al0n dX12_holdLine_53 ?_
          refine V_getR kk104 (by decide) fl_X12_51 (fx_104_40 hρ) dX12_holdLine_54 ?_
          refine V_il1n dX12_holdLine_57 ?_
          refine V_al0n dX12_holdLine_58 ?_
          refine V_getI kk104 (by decide) fl_X12_203 rfl dX12_holdLine_59 ?_
          refine V_iast (k := 3 + n) kk117 (by decide) (by first | rfl | omega) (by omega) (by first | decide | assumption | omega) dX12_holdLine_62 ?_
          refine V_al0n dX12_holdLine_63 ?_
          refine V_iconst dX12_holdLine_64 ?_
          refine V_bipush dX12_holdLine_65 rfl ?_
          refine V_callV (as := [_, _]) ml_X12_212 im_X12_number se_X12_number kk104 (by decide) (by decide) dX12_holdLine_67 rfl rfl (by decide) (by decide) (Nat.le_of_ble_eq_true rfl) (by decide) (by decide) rfl (c_number hρ K45 (lo := 0) (hi := 99) (by unfold ri; omega) (by unfold ri; omega)) ?_
          rintro r67 ρ67 f67 g67 ⟨rfl, s67_0, e67, s67_1⟩
          obtain rfl := s67_0.symm
          obtain rfl := s67_1.symm
          refine V_bf (tgt := 75) dX12_holdLine_70 rfl (fun b70 => ?_) (fun b70 => ?_)
          · rw [thn_t b70, ← e67] at ea
            have K67 : PK (u2 f67 118 (3 + n) (f67 104 11)) := (show PK f67 by rw [e67]; exact K45.num).up (by omega) (by omega) (by omega)
            have o67 : (u2 f67 118 (3 + n) (f67 104 11)) 104 22 = (n : Int) := by rw [u2_o (by omega), e67, numF_o (by omega)]; exact o45
            refine V_al0n dX12_holdLine_75 ?_
            refine V_getR kk104 (by decide) fl_X12_54 (fx_104_41 hρ) dX12_holdLine_76 ?_
            refine V_il1n dX12_holdLine_79 ?_
            refine V_al0n dX12_holdLine_80 ?_
            refine V_getI kk104 (by decide) fl_X12_203 rfl dX12_holdLine_81 ?_
            refine V_iast (k := 3 + n) kk118 (by decide) (by first | rfl | omega) (by omega) (by first | decide | assumption | omega) dX12_holdLine_84 ?_
            refine V_al0n dX12_holdLine_85 ?_
            refine V_iconst dX12_holdLine_86 ?_
            refine V_bipush dX12_holdLine_87 rfl ?_
            refine V_callV (as := [_, _]) ml_X12_212 im_X12_number se_X12_number kk104 (by decide) (by decide) dX12_holdLine_89 rfl rfl (by decide) (by decide) (Nat.le_of_ble_eq_true rfl) (by decide) (by decide) rfl (c_number hρ K67 (lo := 0) (hi := 99) (by unfold ri; omega) (by unfold ri; omega)) ?_
            rintro r89 ρ89 f89 g89 ⟨rfl, s89_0, e89, s89_1⟩
            obtain rfl := s89_0.symm
            obtain rfl := s89_1.symm
            refine V_bf (tgt := 97) dX12_holdLine_92 rfl (fun b92 => ?_) (fun b92 => ?_)
            · rw [thn_t b92, ← e89] at ea
              have K89 : PK (u2 f89 119 (3 + n) (f89 104 11)) := (show PK f89 by rw [e89]; exact K67.num).up (by omega) (by omega) (by omega)
              have o89 : (u2 f89 119 (3 + n) (f89 104 11)) 104 22 = (n : Int) := by rw [u2_o (by omega), e89, numF_o (by omega)]; exact o67
              refine V_al0n dX12_holdLine_97 ?_
              refine V_getR kk104 (by decide) fl_X12_57 (fx_104_42 hρ) dX12_holdLine_98 ?_
              refine V_il1n dX12_holdLine_101 ?_
              refine V_al0n dX12_holdLine_102 ?_
              refine V_getI kk104 (by decide) fl_X12_203 rfl dX12_holdLine_103 ?_
              refine V_iast (k := 3 + n) kk119 (by decide) (by first | rfl | omega) (by omega) (by first | decide | assumption | omega) dX12_holdLine_106 ?_
              refine V_al0n dX12_holdLine_107 ?_
              refine V_dup dX12_holdLine_108 rfl ?_
              refine V_getI kk104 (by decide) fl_X12_222 o89 dX12_holdLine_109 ?_
              refine V_iconst dX12_holdLine_112 ?_
              refine V_iadd dX12_holdLine_113 ?_
              refine V_putI kk104 (by decide) fl_X12_222 rfl dX12_holdLine_114 ?_
              refine V_iconst dX12_holdLine_117 ?_
              exact V_zreturn rfl (by first | exact Or.inl rfl | exact Or.inr rfl | (unfold bz; split <;> simp)) ⟨by rw [ea]; rfl, rfl, by rw [ea], rfl⟩ dX12_holdLine_118
            · rw [thn_f b92] at ea
              refine V_iconst dX12_holdLine_95 ?_
              exact V_zreturn rfl (by first | exact Or.inl rfl | exact Or.inr rfl | (unfold bz; split <;> simp)) ⟨by rw [ea]; rfl, rfl, by rw [ea]; exact e89, rfl⟩ dX12_holdLine_96
          · rw [thn_f b70] at ea
            refine V_iconst dX12_holdLine_73 ?_
            exact V_zreturn rfl (by first | exact Or.inl rfl | exact Or.inr rfl | (unfold bz; split <;> simp)) ⟨by rw [ea]; rfl, rfl, by rw [ea]; exact e67, rfl⟩ dX12_holdLine_74
        · rw [thn_f b48] at ea
          refine V_iconst dX12_holdLine_51 ?_
          exact V_zreturn rfl (by first | exact Or.inl rfl | exact Or.inr rfl | (unfold bz; split <;> simp)) ⟨by rw [ea]; rfl, rfl, by rw [ea]; first | exact e35 | exact e45, rfl⟩ dX12_holdLine_52
    · exfalso; omega
def judgN (n : Nat) (f : IT) : Bool × IT := thn (nnF 124 4 n (tkF f)) fun f1 => thn (numF 0 100 f1) fun f2 => thn (numF 0 100 (u2 f2 125 (4 + n) (f2 104 11))) fun f3 => (true, u2 (u2 f3 126 (4 + n) (f3 104 11)) 104 24 ((n : Int) + 1))
def judgF (f : IT) : Bool × IT := if f 104 24 = 4 then (false, wrg 2 f) else judgN (f 104 24).toNat f
theorem c_judgeLine {ρ : RT} {f : IT} {g : JT} (hρ : Fx ρ) (hK : PK f) (hR : RwK f) : C_X12_judgeLine [.ref 104] ρ f g (fun r ρ' f' g' => r = some (.int (iz (bz (judgF f).1))) ∧ ρ' = ρ ∧ f' = (judgF f).2 ∧ g' = g) := by
  obtain ⟨q1, q2, q20, q21, q22, q23, q24, -⟩ := hR
  obtain ⟨n, hn⟩ : ∃ n : Nat, f 104 24 = n := ⟨(f 104 24).toNat, by omega⟩
  refine Ct.ofV (by decide) rfl (Nat.le_of_ble_eq_true rfl) ?_
  by_cases e : n = 4
  · have ea : judgF f = (false, wrg 2 f) := by unfold judgF; rw [if_pos (by omega)]
    rw [ea]
    refine V_al0n dX12_judgeLine_0 ?_
    refine V_getI kk104 (by decide) fl_X12_228 hn dX12_judgeLine_1 ?_
    refine V_iconst dX12_judgeLine_4 ?_
    refine V_icmp_ne (tgt := 14) dX12_judgeLine_5 rfl (by first | assumption | (unfold ri at *; omega)) (by first | assumption | (unfold ri at *; omega)) (fun b5 => ?_) (fun b5 => ?_)
    · exfalso; omega
    · refine V_al0n dX12_judgeLine_8 ?_
      refine V_iconst dX12_judgeLine_9 ?_
      refine V_callV (as := [_]) ml_X12_196 im_X12_wrong se_X12_wrong kk104 (by decide) (by decide) dX12_judgeLine_10 rfl rfl (by decide) (by decide) (Nat.le_of_ble_eq_true rfl) (by decide) (by decide) rfl (c_wrong) ?_
      refine pq4 ?_
      exact V_zreturn rfl (by first | exact Or.inl rfl | exact Or.inr rfl | (unfold bz; split <;> simp)) ⟨rfl, rfl, rfl, rfl⟩ dX12_judgeLine_13
  · have ea : judgF f = judgN n f := by unfold judgF; rw [if_neg (by omega), hn]; rfl
    unfold judgN at ea
    refine V_al0n dX12_judgeLine_0 ?_
    refine V_getI kk104 (by decide) fl_X12_228 hn dX12_judgeLine_1 ?_
    refine V_iconst dX12_judgeLine_4 ?_
    refine V_icmp_ne (tgt := 14) dX12_judgeLine_5 rfl (by first | assumption | (unfold ri at *; omega)) (by first | assumption | (unfold ri at *; omega)) (fun b5 => ?_) (fun b5 => ?_)
    · refine V_al0n dX12_judgeLine_14 ?_
      refine V_callV (as := []) ml_X12_206 im_X12_token se_X12_token kk104 (by decide) (by decide) dX12_judgeLine_15 rfl rfl (by decide) (by decide) (Nat.le_of_ble_eq_true rfl) (by decide) (by decide) rfl (c_tok hρ hK) ?_
      rintro r15 ρ15 f15 g15 ⟨rfl, s15_0, e15, s15_1⟩
      obtain rfl := s15_0.symm
      obtain rfl := s15_1.symm
      rw [← e15] at ea
      have K15 : PK f15 := by rw [e15]; exact hK.tk
      have o15 : ∀ b j, ¬ (b = 104 ∧ 7 ≤ j ∧ j ≤ 10) → f15 b j = f b j := fun b j h => by rw [e15]; exact tkF_o h
      refine V_iconst dX12_judgeLine_18 ?_
      refine V_al0n dX12_judgeLine_19 ?_
      refine V_getI kk104 (by decide) fl_X12_228 ((o15 104 24 (by omega)).trans hn) dX12_judgeLine_20 ?_
      refine V_iadd dX12_judgeLine_23 ?_
      refine V_is1n dX12_judgeLine_24 (by decide) rfl ?_
      refine V_al0n dX12_judgeLine_25 ?_
      refine V_al0n dX12_judgeLine_26 ?_
      refine V_getR kk104 (by decide) fl_X12_72 (fx_104_47 hρ) dX12_judgeLine_27 ?_
      refine V_iconst dX12_judgeLine_30 ?_
      refine V_al0n dX12_judgeLine_31 ?_
      refine V_getI kk104 (by decide) fl_X12_228 ((o15 104 24 (by omega)).trans hn) dX12_judgeLine_32 ?_
      refine V_callV (as := [_, _, _]) ml_X12_308 im_X12_newName se_X12_newName kk104 (by decide) (by decide) dX12_judgeLine_35 rfl rfl (by decide) (by decide) (Nat.le_of_ble_eq_true rfl) (by decide) (by decide) rfl (c_newName hρ K15 kk124 (by omega) (by omega) (o := 4) (n := n) (by omega) (fun k => by rw [o15 124 k (by omega)]; exact (q1 k).2.2.2.2)) ?_
      rintro r35 ρ35 f35 g35 ⟨rfl, s35_0, e35, s35_1⟩
      obtain rfl := s35_0.symm
      obtain rfl := s35_1.symm
      refine V_bt (tgt := 51) dX12_judgeLine_38 rfl (fun b38 => ?_) (fun b38 => ?_)
      · rw [thn_f b38] at ea
        refine V_iconst dX12_judgeLine_51 ?_
        exact V_zreturn rfl (by first | exact Or.inl rfl | exact Or.inr rfl | (unfold bz; split <;> simp)) ⟨by rw [ea]; rfl, rfl, by rw [ea]; first | exact e35 | exact e45, rfl⟩ dX12_judgeLine_52
      · rw [thn_t b38, ← e35] at ea
        have K35 : PK f35 := by rw [e35]; exact K15.nn (by omega)
        have o35 : f35 104 24 = (n : Int) := by rw [e35, nnF_o (by omega) (by omega), o15 104 24 (by omega)]; exact hn
        refine V_al0n dX12_judgeLine_41 ?_
        refine V_iconst dX12_judgeLine_42 ?_
        refine V_bipush dX12_judgeLine_43 rfl ?_
        refine V_callV (as := [_, _]) ml_X12_212 im_X12_number se_X12_number kk104 (by decide) (by decide) dX12_judgeLine_45 rfl rfl (by decide) (by decide) (Nat.le_of_ble_eq_true rfl) (by decide) (by decide) rfl (c_number hρ K35 (lo := 0) (hi := 100) (by unfold ri; omega) (by unfold ri; omega)) ?_
        rintro r45 ρ45 f45 g45 ⟨rfl, s45_0, e45, s45_1⟩
        obtain rfl := s45_0.symm
        obtain rfl := s45_1.symm
        refine V_bf (tgt := 53) dX12_judgeLine_48 rfl (fun b48 => ?_) (fun b48 => ?_)
        · rw [thn_t b48, ← e45] at ea
          have K45 : PK (u2 f45 125 (4 + n) (f45 104 11)) := (show PK f45 by rw [e45]; exact K35.num).up (by omega) (by omega) (by omega)
          have o45 : (u2 f45 125 (4 + n) (f45 104 11)) 104 24 = (n : Int) := by rw [u2_o (by omega), e45, numF_o (by omega)]; exact o35
          refine V_al0n dX12_judgeLine_53 ?_
          refine V_getR kk104 (by decide) fl_X12_75 (fx_104_48 hρ) dX12_judgeLine_54 ?_
          refine V_il1n dX12_judgeLine_57 ?_
          refine V_al0n dX12_judgeLine_58 ?_
          refine V_getI kk104 (by decide) fl_X12_203 rfl dX12_judgeLine_59 ?_
          refine V_iast (k := 4 + n) kk125 (by decide) (by first | rfl | omega) (by omega) (by first | decide | assumption | omega) dX12_judgeLine_62 ?_
          refine V_al0n dX12_judgeLine_63 ?_
          refine V_iconst dX12_judgeLine_64 ?_
          refine V_bipush dX12_judgeLine_65 rfl ?_
          refine V_callV (as := [_, _]) ml_X12_212 im_X12_number se_X12_number kk104 (by decide) (by decide) dX12_judgeLine_67 rfl rfl (by decide) (by decide) (Nat.le_of_ble_eq_true rfl) (by decide) (by decide) rfl (c_number hρ K45 (lo := 0) (hi := 100) (by unfold ri; omega) (by unfold ri; omega)) ?_
          rintro r67 ρ67 f67 g67 ⟨rfl, s67_0, e67, s67_1⟩
          obtain rfl := s67_0.symm
          obtain rfl := s67_1.symm
          refine V_bf (tgt := 75) dX12_judgeLine_70 rfl (fun b70 => ?_) (fun b70 => ?_)
          · rw [thn_t b70, ← e67] at ea
            have K67 : PK (u2 f67 126 (4 + n) (f67 104 11)) := (show PK f67 by rw [e67]; exact K45.num).up (by omega) (by omega) (by omega)
            have o67 : (u2 f67 126 (4 + n) (f67 104 11)) 104 24 = (n : Int) := by rw [u2_o (by omega), e67, numF_o (by omega)]; exact o45
            refine V_al0n dX12_judgeLine_75 ?_
            refine V_getR kk104 (by decide) fl_X12_78 (fx_104_49 hρ) dX12_judgeLine_76 ?_
            refine V_il1n dX12_judgeLine_79 ?_
            refine V_al0n dX12_judgeLine_80 ?_
            refine V_getI kk104 (by decide) fl_X12_203 rfl dX12_judgeLine_81 ?_
            refine V_iast (k := 4 + n) kk126 (by decide) (by first | rfl | omega) (by omega) (by first | decide | assumption | omega) dX12_judgeLine_84 ?_
            refine V_al0n dX12_judgeLine_85 ?_
            refine V_dup dX12_judgeLine_86 rfl ?_
            refine V_getI kk104 (by decide) fl_X12_228 o67 dX12_judgeLine_87 ?_
            refine V_iconst dX12_judgeLine_90 ?_
            refine V_iadd dX12_judgeLine_91 ?_
            refine V_putI kk104 (by decide) fl_X12_228 rfl dX12_judgeLine_92 ?_
            refine V_iconst dX12_judgeLine_95 ?_
            exact V_zreturn rfl (by first | exact Or.inl rfl | exact Or.inr rfl | (unfold bz; split <;> simp)) ⟨by rw [ea]; rfl, rfl, by rw [ea], rfl⟩ dX12_judgeLine_96
          · rw [thn_f b70] at ea
            refine V_iconst dX12_judgeLine_73 ?_
            exact V_zreturn rfl (by first | exact Or.inl rfl | exact Or.inr rfl | (unfold bz; split <;> simp)) ⟨by rw [ea]; rfl, rfl, by rw [ea]; exact e67, rfl⟩ dX12_judgeLine_74
        · rw [thn_f b48] at ea
          refine V_iconst dX12_judgeLine_51 ?_
          exact V_zreturn rfl (by first | exact Or.inl rfl | exact Or.inr rfl | (unfold bz; split <;> simp)) ⟨by rw [ea]; rfl, rfl, by rw [ea]; first | exact e35 | exact e45, rfl⟩ dX12_judgeLine_52
    · exfalso; omega

