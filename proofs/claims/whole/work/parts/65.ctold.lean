/-! the class's told text, against T -/
def mxK (i : Nat) : Nat := if i = 0 then 6 else if i = 1 then 5 else if i = 2 then 3 else if i = 3 then 5 else 4
def wdK (i : Nat) : Nat := if i = 0 then 4 else if i = 1 then 3 else if i = 2 then 3 else if i = 3 then 7 else 2
def namT (T : TT) (i k : Nat) : Int := if i = 0 then T 107 k else if i = 1 then T 112 k else if i = 2 then T 116 k else if i = 3 then T 120 k else T 124 k
def tcl (T : TT) (i k j : Nat) : Int :=
  if i = 0 then (if j = 0 then T 108 k else if j = 1 then T 109 k else if j = 2 then T 110 k else T 111 k)
  else if i = 1 then (if j = 0 then T 113 k else if j = 1 then T 114 k else T 115 k)
  else if i = 2 then (if j = 0 then T 117 k else if j = 1 then T 118 k else T 119 k)
  else if i = 3 then (if j = 0 then T 121 k else pce T k (j - 1))
  else (if j = 0 then T 125 k else T 126 k)
/-- and and or change their places -/
def swp (k : Int) : Int := if k = 3 then 4 else if k = 4 then 3 else k
/-- whether a name stands in a law -/
def us (T : TT) (n : Nat) : Bool := decide (∃ i : Nat, i < (T 104 17).toNat ∧ T 130 i = 1 ∧ T 131 i = (n : Int))
def CL (T : TT) (b : Nat) (f : IT) : Prop := f (b + 17) 8 = T 104 17 ∧ (∀ w, w < 8 → (T 127 w = 1 → f (b + 20) w = T 128 w ∧ f (b + 21) w = T 129 w) ∧ (T 127 w = 0 → f (b + 20) w = 0 ∧ f (b + 21) w = 0)) ∧ (∀ i : Nat, (i : Int) < T 104 17 → f (b + 18) i = swp (T 130 i) ∧ (T 130 i ≤ 1 → f (b + 19) i = T 131 i)) ∧ (∀ n, n < 8 → f (b + 24) n = bz (us T n))
def CT (T : TT) (b : Nat) (f : IT) : Prop := (∀ i, i < 5 → f (b + 2 + 3 * i) 4 = T 104 (12 + i) ∧ f (b + 2 + 3 * i) 0 = (mxK i : Int) ∧ f (b + 2 + 3 * i) 1 = (wdK i : Int)) ∧ (∀ i k : Nat, i < 5 → (k : Int) < T 104 (12 + i) → f (b + 3 + 3 * i) k = namT T i k) ∧ (∀ i k j : Nat, i < 5 → (k : Int) < T 104 (12 + i) → j < wdK i → f (b + 4 + 3 * i) (k * wdK i + j) = tcl T i k j) ∧ CL T b f
theorem kdR {b i : Nat} (hb : b = 5 ∨ b = 30) (hi : i < 5) : kd (b + 2 + 3 * i) = (3, 0) ∧ kd (b + 3 + 3 * i) = (13, mxK i) ∧ kd (b + 4 + 3 * i) = (13, mxK i * wdK i) := by
  rcases (show i = 0 ∨ i = 1 ∨ i = 2 ∨ i = 3 ∨ i = 4 by omega) with rfl | rfl | rfl | rfl | rfl <;> rcases hb with rfl | rfl <;> exact ⟨rfl, rfl, rfl⟩
theorem fxR {b i : Nat} {ρ : RT} (h : Fx ρ) (hb : b = 5 ∨ b = 30) (hi : i < 5) : ρ (b + 1) i = some (b + 2 + 3 * i) ∧ ρ (b + 2 + 3 * i) 2 = some (b + 3 + 3 * i) ∧ ρ (b + 2 + 3 * i) 3 = some (b + 4 + 3 * i) := by
  rcases (show i = 0 ∨ i = 1 ∨ i = 2 ∨ i = 3 ∨ i = 4 by omega) with rfl | rfl | rfl | rfl | rfl
  · exact ⟨fb_1_0 h hb, fb_2_2 h hb, fb_2_3 h hb⟩
  · exact ⟨fb_1_1 h hb, fb_5_2 h hb, fb_5_3 h hb⟩
  · exact ⟨fb_1_2 h hb, fb_8_2 h hb, fb_8_3 h hb⟩
  · exact ⟨fb_1_3 h hb, fb_11_2 h hb, fb_11_3 h hb⟩
  · exact ⟨fb_1_4 h hb, fb_14_2 h hb, fb_14_3 h hb⟩
theorem TOK.nk {T : TT} (h : TOK T) {i : Nat} (hi : i < 5) : 0 ≤ T 104 (12 + i) ∧ T 104 (12 + i) ≤ (mxK i : Int) ∧ mxK i ≤ 6 ∧ wdK i ≤ 7 ∧ 1 ≤ wdK i := by
  obtain ⟨h1, h2, h3, h4, h5, -⟩ := h
  rcases (show i = 0 ∨ i = 1 ∨ i = 2 ∨ i = 3 ∨ i = 4 by omega) with rfl | rfl | rfl | rfl | rfl
  · exact ⟨h1.1, h1.2, by decide, by decide, by decide⟩
  · exact ⟨h2.1, h2.2, by decide, by decide, by decide⟩
  · exact ⟨h3.1, h3.2, by decide, by decide, by decide⟩
  · exact ⟨h4.1, h4.2, by decide, by decide, by decide⟩
  · exact ⟨h5.1, h5.2, by decide, by decide, by decide⟩
theorem cix {k j m w : Nat} (hk : k < m) (hj : j < w) : k * w + j < m * w := by
  have : (k + 1) * w ≤ m * w := Nat.mul_le_mul_right w hk
  rw [Nat.add_mul, Nat.one_mul] at this
  omega
def tat (T : TT) (i : Nat) (k j : Int) : Int := if (0 ≤ k ∧ k < T 104 (12 + i)) ∧ (0 ≤ j ∧ j < (wdK i : Int)) then tcl T i k.toNat j.toNat else 0
def tha (T : TT) (i : Nat) (k : Int) : Bool := decide (0 ≤ k ∧ k < T 104 (12 + i))
section TOLD
variable {T : TT} {b : Nat} {ρ : RT} {f : IT} {g : JT}
theorem c_size (hρ : Fx ρ) (hb : b = 5 ∨ b = 30) (hC : CT T b f) {i : Nat} (hi : i < 5) : C_X7_size [.ref b, .int (iz (i : Int))] ρ f g (fun r ρ' f' g' => r = some (.int (iz (T 104 (12 + i)))) ∧ ρ' = ρ ∧ f' = f ∧ g' = g) := by
  have hkd := kdR hb hi
  have hfx := fxR hρ hb hi
  refine Ct.ofV (by decide) rfl (Nat.le_of_ble_eq_true rfl) ?_
  refine V_il1n dX7_size_0 ?_
  refine V_if_lt (tgt := 25) dX7_size_1 rfl (by unfold ri; omega) (fun b1 => ?_) (fun b1 => ?_)
  · exfalso; omega
  · refine V_il1n dX7_size_4 ?_
    refine V_al0n dX7_size_5 ?_
    refine V_getR (kb_0 hb) (kl_0 hb) fl_X7_14 (fb_0_0 hρ hb) dX7_size_6 ?_
    refine V_alen (kb_1 hb) (by decide) (kl_1 hb) dX7_size_9 ?_
    refine V_icmp_ge (tgt := 25) dX7_size_10 rfl (by unfold ri; omega) (by unfold ri; omega) (fun b10 => ?_) (fun b10 => ?_)
    · exfalso; omega
    · refine V_al0n dX7_size_13 ?_
      refine V_getR (kb_0 hb) (kl_0 hb) fl_X7_14 (fb_0_0 hρ hb) dX7_size_14 ?_
      refine V_il1n dX7_size_17 ?_
      refine V_aald (k := i) (kb_1 hb) (by decide) (kl_1 hb) (by first | rfl | omega) (by omega) (by decide) hfx.1 dX7_size_18 ?_
      refine V_getI hkd.1 (kdlt hkd.1 (by decide)) fl_X7_37 (hC.1 i hi).1 dX7_size_19 ?_
      refine V_goto (tgt := 26) dX7_size_22 rfl ?_
      exact V_ireturn rfl ⟨rfl, rfl, rfl, rfl⟩ dX7_size_26
theorem c_has (hρ : Fx ρ) (hb : b = 5 ∨ b = 30) (hC : CT T b f) (hk : TOK T) {i : Nat} (hi : i < 5) {k : Int} (rk : ri k) : C_X7_has [.ref b, .int (iz (i : Int)), .int (iz k)] ρ f g (fun r ρ' f' g' => r = some (.int (iz (bz (tha T i k)))) ∧ ρ' = ρ ∧ f' = f ∧ g' = g) := by
  have hkd := kdR hb hi
  have hfx := fxR hρ hb hi
  have hn := hk.nk hi
  refine Ct.ofV (by decide) rfl (Nat.le_of_ble_eq_true rfl) ?_
  refine V_il1n dX7_has_0 ?_
  refine V_if_lt (tgt := 34) dX7_has_1 rfl (by unfold ri; omega) (fun b1 => ?_) (fun b1 => ?_)
  · exfalso; omega
  · refine V_il1n dX7_has_4 ?_
    refine V_al0n dX7_has_5 ?_
    refine V_getR (kb_0 hb) (kl_0 hb) fl_X7_14 (fb_0_0 hρ hb) dX7_has_6 ?_
    refine V_alen (kb_1 hb) (by decide) (kl_1 hb) dX7_has_9 ?_
    refine V_icmp_ge (tgt := 34) dX7_has_10 rfl (by unfold ri; omega) (by unfold ri; omega) (fun b10 => ?_) (fun b10 => ?_)
    · exfalso; omega
    · refine V_il2n dX7_has_13 ?_
      refine V_if_lt (tgt := 34) dX7_has_14 rfl (by first | assumption | (unfold ri at *; omega)) (fun b14 => ?_) (fun b14 => ?_)
      · refine V_iconst dX7_has_34 ?_
        exact V_zreturn rfl (by first | exact Or.inl rfl | exact Or.inr rfl | (unfold bz; split <;> simp)) ⟨by unfold tha bz; simp only [decide_eq_true_eq]; split <;> first | rfl | (exfalso; omega), rfl, rfl, rfl⟩ dX7_has_35
      · refine V_il2n dX7_has_17 ?_
        refine V_al0n dX7_has_18 ?_
        refine V_getR (kb_0 hb) (kl_0 hb) fl_X7_14 (fb_0_0 hρ hb) dX7_has_19 ?_
        refine V_il1n dX7_has_22 ?_
        refine V_aald (k := i) (kb_1 hb) (by decide) (kl_1 hb) (by first | rfl | omega) (by omega) (by decide) hfx.1 dX7_has_23 ?_
        refine V_getI hkd.1 (kdlt hkd.1 (by decide)) fl_X7_37 (hC.1 i hi).1 dX7_has_24 ?_
        refine V_icmp_ge (tgt := 34) dX7_has_27 rfl (by first | assumption | (unfold ri; omega)) (by first | assumption | (unfold ri; omega)) (fun b27 => ?_) (fun b27 => ?_)
        · refine V_iconst dX7_has_34 ?_
          exact V_zreturn rfl (by first | exact Or.inl rfl | exact Or.inr rfl | (unfold bz; split <;> simp)) ⟨by unfold tha bz; simp only [decide_eq_true_eq]; split <;> first | rfl | (exfalso; omega), rfl, rfl, rfl⟩ dX7_has_35
        · refine V_iconst dX7_has_30 ?_
          refine V_goto (tgt := 35) dX7_has_31 rfl ?_
          exact V_zreturn rfl (by first | exact Or.inl rfl | exact Or.inr rfl | (unfold bz; split <;> simp)) ⟨by unfold tha bz; simp only [decide_eq_true_eq]; split <;> first | rfl | (exfalso; omega), rfl, rfl, rfl⟩ dX7_has_35
theorem tat_no {i : Nat} {k j : Int} (h : tha T i k = false) : tat T i k j = 0 := by
  have h1 := of_decide_eq_false h
  unfold tat
  rw [if_neg (fun h2 => h1 h2.1)]
/-- a row of a kind, by the rows themselves -/
theorem c_rat (hρ : Fx ρ) (hb : b = 5 ∨ b = 30) (hC : CT T b f) (hk : TOK T) {i : Nat} (hi : i < 5) {k j : Int} (rk : ri k) (rj : ri j) : C_X3_at [.ref (b + 2 + 3 * i), .int (iz k), .int (iz j)] ρ f g (fun r ρ' f' g' => r = some (.int (iz (tat T i k j))) ∧ ρ' = ρ ∧ f' = f ∧ g' = g) := by
  have hkd := kdR hb hi
  have hfx := fxR hρ hb hi
  have hn := hk.nk hi
  refine Ct.ofV (by decide) rfl (Nat.le_of_ble_eq_true rfl) ?_
  unfold tat
  by_cases e : (0 ≤ k ∧ k < T 104 (12 + i)) ∧ (0 ≤ j ∧ j < (wdK i : Int))
  · rw [if_pos e]
    obtain ⟨⟨k1, k2⟩, j1, j2⟩ := e
    obtain ⟨kN, rfl⟩ : ∃ n : Nat, k = n := ⟨k.toNat, by omega⟩
    obtain ⟨jN, rfl⟩ : ∃ n : Nat, j = n := ⟨j.toNat, by omega⟩
    rw [Int.toNat_natCast, Int.toNat_natCast]
    have hix : kN * wdK i + jN < mxK i * wdK i := cix (by omega) (by omega)
    have hll : mxK i * wdK i ≤ 42 := Nat.mul_le_mul hn.2.2.1 hn.2.2.2.1
    have ej : (kN : Int) * (wdK i : Int) + (jN : Int) = ((kN * wdK i + jN : Nat) : Int) := by simp
    refine V_il1n dX3_at_0 ?_
    refine V_if_lt (tgt := 36) dX3_at_1 rfl (by unfold ri; omega) (fun b1 => ?_) (fun b1 => ?_)
    · exfalso; omega
    · refine V_il1n dX3_at_4 ?_
      refine V_al0n dX3_at_5 ?_
      refine V_getI hkd.1 (kdlt hkd.1 (by decide)) fl_X3_9 (hC.1 i hi).1 dX3_at_6 ?_
      refine V_icmp_ge (tgt := 36) dX3_at_9 rfl (by unfold ri; omega) (by unfold ri; omega) (fun b9 => ?_) (fun b9 => ?_)
      · exfalso; omega
      · refine V_il1n dX3_at_12 ?_
        refine V_al0n dX3_at_13 ?_
        refine V_getI hkd.1 (kdlt hkd.1 (by decide)) fl_X3_15 (hC.1 i hi).2.1 dX3_at_14 ?_
        refine V_icmp_ge (tgt := 36) dX3_at_17 rfl (by unfold ri; omega) (by unfold ri; omega) (fun b17 => ?_) (fun b17 => ?_)
        · exfalso; omega
        · refine V_il2n dX3_at_20 ?_
          refine V_if_lt (tgt := 36) dX3_at_21 rfl (by unfold ri; omega) (fun b21 => ?_) (fun b21 => ?_)
          · exfalso; omega
          · refine V_il2n dX3_at_24 ?_
            refine V_al0n dX3_at_25 ?_
            refine V_getI hkd.1 (kdlt hkd.1 (by decide)) fl_X3_18 (hC.1 i hi).2.2 dX3_at_26 ?_
            refine V_icmp_ge (tgt := 36) dX3_at_29 rfl (by unfold ri; omega) (by unfold ri; omega) (fun b29 => ?_) (fun b29 => ?_)
            · exfalso; omega
            · refine V_iconst dX3_at_32 ?_
              refine V_goto (tgt := 37) dX3_at_33 rfl ?_
              refine V_is3n dX3_at_37 (by decide) rfl ?_
              refine V_il3n dX3_at_38 ?_
              refine V_if_eq (tgt := 58) dX3_at_39 rfl (by unfold ri; decide) (fun b39 => by exfalso; revert b39; decide) (fun b39 => ?_)
              refine V_al0n dX3_at_42 ?_
              refine V_getR hkd.1 (kdlt hkd.1 (by decide)) fl_X3_25 hfx.2.2 dX3_at_43 ?_
              refine V_il1n dX3_at_46 ?_
              refine V_al0n dX3_at_47 ?_
              refine V_getI hkd.1 (kdlt hkd.1 (by decide)) fl_X3_18 (hC.1 i hi).2.2 dX3_at_48 ?_
              refine V_imul dX3_at_51 ?_
              refine V_il2n dX3_at_52 ?_
              refine V_iadd dX3_at_53 ?_
              refine V_iald (k := (kN * wdK i + jN)) hkd.2.2 (kdlt hkd.2.2 (by decide)) ej (by omega) (by first | decide | assumption | omega) (hC.2.2.1 i kN jN hi (by omega) (by omega)) dX3_at_54 ?_
              refine V_goto (tgt := 59) dX3_at_55 rfl ?_
              exact V_ireturn rfl ⟨rfl, rfl, rfl, rfl⟩ dX3_at_59
  · rw [if_neg e]
    refine V_il1n dX3_at_0 ?_
    refine V_if_lt (tgt := 36) dX3_at_1 rfl (by first | assumption | (unfold ri; omega)) (fun b1 => ?_) (fun b1 => ?_)
    · refine V_iconst dX3_at_36 ?_
      refine V_is3n dX3_at_37 (by decide) rfl ?_
      refine V_il3n dX3_at_38 ?_
      refine V_if_eq (tgt := 58) dX3_at_39 rfl (by unfold ri; decide) (fun b39 => ?_) (fun b39 => by exfalso; revert b39; decide)
      refine V_iconst dX3_at_58 ?_
      exact V_ireturn rfl ⟨rfl, rfl, rfl, rfl⟩ dX3_at_59
    · refine V_il1n dX3_at_4 ?_
      refine V_al0n dX3_at_5 ?_
      refine V_getI hkd.1 (kdlt hkd.1 (by decide)) fl_X3_9 (hC.1 i hi).1 dX3_at_6 ?_
      refine V_icmp_ge (tgt := 36) dX3_at_9 rfl (by first | assumption | (unfold ri; omega)) (by first | assumption | (unfold ri; omega)) (fun b9 => ?_) (fun b9 => ?_)
      · refine V_iconst dX3_at_36 ?_
        refine V_is3n dX3_at_37 (by decide) rfl ?_
        refine V_il3n dX3_at_38 ?_
        refine V_if_eq (tgt := 58) dX3_at_39 rfl (by unfold ri; decide) (fun b39 => ?_) (fun b39 => by exfalso; revert b39; decide)
        refine V_iconst dX3_at_58 ?_
        exact V_ireturn rfl ⟨rfl, rfl, rfl, rfl⟩ dX3_at_59
      · refine V_il1n dX3_at_12 ?_
        refine V_al0n dX3_at_13 ?_
        refine V_getI hkd.1 (kdlt hkd.1 (by decide)) fl_X3_15 (hC.1 i hi).2.1 dX3_at_14 ?_
        refine V_icmp_ge (tgt := 36) dX3_at_17 rfl (by first | assumption | (unfold ri; omega)) (by first | assumption | (unfold ri; omega)) (fun b17 => ?_) (fun b17 => ?_)
        · refine V_iconst dX3_at_36 ?_
          refine V_is3n dX3_at_37 (by decide) rfl ?_
          refine V_il3n dX3_at_38 ?_
          refine V_if_eq (tgt := 58) dX3_at_39 rfl (by unfold ri; decide) (fun b39 => ?_) (fun b39 => by exfalso; revert b39; decide)
          refine V_iconst dX3_at_58 ?_
          exact V_ireturn rfl ⟨rfl, rfl, rfl, rfl⟩ dX3_at_59
        · refine V_il2n dX3_at_20 ?_
          refine V_if_lt (tgt := 36) dX3_at_21 rfl (by first | assumption | (unfold ri; omega)) (fun b21 => ?_) (fun b21 => ?_)
          · refine V_iconst dX3_at_36 ?_
            refine V_is3n dX3_at_37 (by decide) rfl ?_
            refine V_il3n dX3_at_38 ?_
            refine V_if_eq (tgt := 58) dX3_at_39 rfl (by unfold ri; decide) (fun b39 => ?_) (fun b39 => by exfalso; revert b39; decide)
            refine V_iconst dX3_at_58 ?_
            exact V_ireturn rfl ⟨rfl, rfl, rfl, rfl⟩ dX3_at_59
          · refine V_il2n dX3_at_24 ?_
            refine V_al0n dX3_at_25 ?_
            refine V_getI hkd.1 (kdlt hkd.1 (by decide)) fl_X3_18 (hC.1 i hi).2.2 dX3_at_26 ?_
            refine V_icmp_ge (tgt := 36) dX3_at_29 rfl (by first | assumption | (unfold ri; omega)) (by first | assumption | (unfold ri; omega)) (fun b29 => ?_) (fun b29 => ?_)
            · refine V_iconst dX3_at_36 ?_
              refine V_is3n dX3_at_37 (by decide) rfl ?_
              refine V_il3n dX3_at_38 ?_
              refine V_if_eq (tgt := 58) dX3_at_39 rfl (by unfold ri; decide) (fun b39 => ?_) (fun b39 => by exfalso; revert b39; decide)
              refine V_iconst dX3_at_58 ?_
              exact V_ireturn rfl ⟨rfl, rfl, rfl, rfl⟩ dX3_at_59
            · exfalso; omega
theorem c_at (hρ : Fx ρ) (hb : b = 5 ∨ b = 30) (hC : CT T b f) (hk : TOK T) {i : Nat} (hi : i < 5) {k j : Int} (rk : ri k) (rj : ri j) : C_X7_at [.ref b, .int (iz (i : Int)), .int (iz k), .int (iz j)] ρ f g (fun r ρ' f' g' => r = some (.int (iz (tat T i k j))) ∧ ρ' = ρ ∧ f' = f ∧ g' = g) := by
  have hkd := kdR hb hi
  have hfx := fxR hρ hb hi
  refine Ct.ofV (by decide) rfl (Nat.le_of_ble_eq_true rfl) ?_
  refine V_al0n dX7_at_0 ?_
  refine V_il1n dX7_at_1 ?_
  refine V_il2n dX7_at_2 ?_
  refine V_callV (as := [_, _]) ml_X7_43 im_X7_has se_X7_has (kb_0 hb) (by decide) (kl_0 hb) dX7_at_3 rfl rfl (by decide) (by decide) (Nat.le_of_ble_eq_true rfl) (by decide) (by decide) rfl (c_has hρ hb hC hk hi rk) ?_
  refine pq4 ?_
  refine V_bt (tgt := 23) dX7_at_6 rfl (fun b6 => ?_) (fun b6 => ?_)
  · refine V_iconst dX7_at_23 ?_
    exact V_ireturn rfl ⟨by first | rfl | (rw [tat_no b6]), rfl, rfl, rfl⟩ dX7_at_24
  · refine V_al0n dX7_at_9 ?_
    refine V_getR (kb_0 hb) (kl_0 hb) fl_X7_14 (fb_0_0 hρ hb) dX7_at_10 ?_
    refine V_il1n dX7_at_13 ?_
    refine V_aald (k := i) (kb_1 hb) (by decide) (kl_1 hb) (by first | rfl | omega) (by omega) (by decide) hfx.1 dX7_at_14 ?_
    refine V_il2n dX7_at_15 ?_
    refine V_il3n dX7_at_16 ?_
    refine V_callV (as := [_, _]) ml_X7_47 im_X3_at se_X3_at hkd.1 (by decide) (kdlt hkd.1 (by decide)) dX7_at_17 rfl rfl (by decide) (by decide) (Nat.le_of_ble_eq_true rfl) (by decide) (by decide) rfl (c_rat hρ hb hC hk hi rk rj) ?_
    refine pq4 ?_
    refine V_goto (tgt := 24) dX7_at_20 rfl ?_
    exact V_ireturn rfl ⟨by first | rfl | (rw [tat_no b6]), rfl, rfl, rfl⟩ dX7_at_24
def stA (T : TT) (n : Int) : Int := sumTo (T 108) (if n ≤ 0 then 0 else if n < T 104 12 then n.toNat else nLa T)
theorem sumTo_rng {s : Nat → Int} {B : Int} (hB : 0 ≤ B) : ∀ n : Nat, (∀ i, i < n → 0 ≤ s i ∧ s i ≤ B) → 0 ≤ sumTo s n ∧ sumTo s n ≤ B * n
  | 0, _ => by simp [sumTo]
  | n + 1, h => by
    have := sumTo_rng hB n (fun i hi => h i (by omega))
    have := h n (by omega)
    simp only [sumTo]
    rw [show ((n + 1 : Nat) : Int) = (n : Int) + 1 by omega, Int.mul_add]
    omega
theorem w_stepsAhead (hρ : Fx ρ) (hb : b = 5 ∨ b = 30) (hC : CT T b f) (hk : TOK T) {n : Int} (rn_ : ri n) {Q : QT} (hQ : Q (some (.int (iz (stA T n)))) ρ f g) (i : Nat) (hi : i ≤ nLa T) (hin : (i : Int) ≤ n ∨ i = 0) :
    V_X7_stepsAhead Q 4 [.ref b, .int (iz n), .int (iz (sumTo (T 108) i)), .int (iz (i : Int))] [] ρ f g := by
  have h6 := hk.la
  have e12 : T 104 12 = (nLa T : Int) := h6.1
  refine V_il3n dX7_stepsAhead_4 ?_
  refine V_il1n dX7_stepsAhead_5 ?_
  refine V_icmp_ge (tgt := 34) dX7_stepsAhead_6 rfl (by first | assumption | (unfold ri; omega)) (by first | assumption | (unfold ri; omega)) (fun b6 => ?_) (fun b6 => ?_)
  · refine V_il2n dX7_stepsAhead_34 ?_
    exact V_ireturn rfl (by have hst : stA T n = sumTo (T 108) i := (by unfold stA; congr 1; first | (have e5 : T 104 12 ≤ (i : Int) := b15; (repeat' split) <;> omega) | ((repeat' split) <;> omega)); rw [← hst]; exact hQ) dX7_stepsAhead_35
  · refine V_il3n dX7_stepsAhead_9 ?_
    refine V_al0n dX7_stepsAhead_10 ?_
    refine V_iconst dX7_stepsAhead_11 ?_
    refine V_callV (as := [_]) ml_X7_51 im_X7_size se_X7_size (kb_0 hb) (by decide) (kl_0 hb) dX7_stepsAhead_12 rfl rfl (by decide) (by decide) (Nat.le_of_ble_eq_true rfl) (by decide) (by decide) rfl (c_size hρ hb hC (i := 0) (by omega)) ?_
    refine pq4 ?_
    refine V_icmp_ge (tgt := 34) dX7_stepsAhead_15 rfl (by have : T 104 (12 + 0) = T 104 12 := rfl; unfold ri; omega) (by have : T 104 (12 + 0) = T 104 12 := rfl; unfold ri; omega) (fun b15 => ?_) (fun b15 => ?_)
    · refine V_il2n dX7_stepsAhead_34 ?_
      exact V_ireturn rfl (by have hst : stA T n = sumTo (T 108) i := (by unfold stA; congr 1; first | (have e5 : T 104 12 ≤ (i : Int) := b15; (repeat' split) <;> omega) | ((repeat' split) <;> omega)); rw [← hst]; exact hQ) dX7_stepsAhead_35
    · refine V_il2n dX7_stepsAhead_18 ?_
      refine V_al0n dX7_stepsAhead_19 ?_
      refine V_iconst dX7_stepsAhead_20 ?_
      refine V_il3n dX7_stepsAhead_21 ?_
      refine V_iconst dX7_stepsAhead_22 ?_
      refine V_callV (as := [_, _, _]) ml_X7_54 im_X7_at se_X7_at (kb_0 hb) (by decide) (kl_0 hb) dX7_stepsAhead_23 rfl rfl (by decide) (by decide) (Nat.le_of_ble_eq_true rfl) (by decide) (by decide) rfl (c_at hρ hb hC hk (i := 0) (by omega) (by unfold ri; omega) (by unfold ri; omega)) ?_
      refine pq4 ?_
      refine V_iadd dX7_stepsAhead_26 ?_
      refine V_is2n dX7_stepsAhead_27 (by decide) rfl ?_
      refine V_inc3 dX7_stepsAhead_28 (by decide) rfl ?_
      refine V_goto (tgt := 4) dX7_stepsAhead_31 rfl ?_
      have e5 : ¬ (T 104 12 ≤ (i : Int)) := b15
      have ev : tat T 0 (i : Int) 0 = T 108 i := by unfold tat; rw [if_pos (by refine ⟨⟨by omega, ?_⟩, by omega, by decide⟩; show (i : Int) < T 104 12; omega)]; rfl
      rw [ev]
      exact w_stepsAhead hρ hb hC hk rn_ hQ (i + 1) (by omega) (by omega)
termination_by nLa T - i
theorem c_stepsAhead (hρ : Fx ρ) (hb : b = 5 ∨ b = 30) (hC : CT T b f) (hk : TOK T) {n : Int} (rn_ : ri n) : C_X7_stepsAhead [.ref b, .int (iz n)] ρ f g (fun r ρ' f' g' => r = some (.int (iz (stA T n))) ∧ ρ' = ρ ∧ f' = f ∧ g' = g) := by
  refine Ct.ofV (by decide) rfl (Nat.le_of_ble_eq_true rfl) ?_
  refine V_iconst dX7_stepsAhead_0 ?_
  refine V_is2n dX7_stepsAhead_1 (by decide) rfl ?_
  refine V_iconst dX7_stepsAhead_2 ?_
  refine V_is3n dX7_stepsAhead_3 (by decide) rfl ?_
  exact w_stepsAhead hρ hb hC hk rn_ ⟨rfl, rfl, rfl, rfl⟩ 0 (by omega) (by omega)
end TOLD

