/-! laws: what a knot is worth, and a law -/
def BND : Int := 1000000000000
def over (x : Int) : Bool := decide (1000000000000 < x ∨ x < -1000000000000)
theorem c_bounded {ρ : RT} {f : IT} {g : JT} {e : Bool} {x : Int} (he : f 104 66 = bz e) (hx : rl x) : C_X12_bounded [.ref 104, .long (lz x)] ρ f g (fun r ρ' f' g' => r = some (.long (lz (if (e || over x) = true then 0 else x))) ∧ ρ' = ρ ∧ f' = u2 f 104 66 (bz (e || over x)) ∧ g' = g) := by
  refine Ct.ofV (by decide) rfl (by decide) ?_
  refine V_al0n dX12_bounded_0 ?_
  refine V_al0n dX12_bounded_1 ?_
  refine V_getZ kk104 (by decide) fl_X12_386 he dX12_bounded_2 ?_
  refine V_bf (tgt := 24) dX12_bounded_5 rfl (fun b5 => ?_) (fun b5 => ?_)
  · refine V_iconst dX12_bounded_24 ?_
    refine V_goto (tgt := 29) dX12_bounded_25 rfl ?_
    refine V_putZ kk104 (by decide) fl_X12_386 rfl (by first | exact Or.inl rfl | exact Or.inr rfl | (unfold bz; split <;> simp)) dX12_bounded_29 ?_
    refine V_al0n dX12_bounded_32 ?_
    refine V_getZ kk104 (by decide) fl_X12_386 u2_s dX12_bounded_33 ?_
    refine V_if_eq (tgt := 43) dX12_bounded_36 rfl (by unfold ri; decide) (fun b36 => by exfalso; revert b36; decide) (fun b36 => ?_)
    refine V_lconst (a := 0) dX12_bounded_39 rfl ?_
    refine V_goto (tgt := 44) dX12_bounded_40 rfl ?_
    exact V_lreturn rfl ⟨by simp [*, over]; try omega, rfl, by simp [*, over, bz]; try omega, rfl⟩ dX12_bounded_44
  · refine V_ll1n dX12_bounded_8 ?_
    refine V_ldc2_w (a := 1000000000000) kl_X12_389 rfl dX12_bounded_9 ?_
    refine V_lif_gt (tgt := 24) dX12_bounded_12 dX12_bounded_13 rfl (by first | assumption | (unfold rl at *; omega)) (by first | assumption | (unfold rl at *; omega)) (fun b13 => ?_) (fun b13 => ?_)
    · refine V_iconst dX12_bounded_24 ?_
      refine V_goto (tgt := 29) dX12_bounded_25 rfl ?_
      refine V_putZ kk104 (by decide) fl_X12_386 rfl (by first | exact Or.inl rfl | exact Or.inr rfl | (unfold bz; split <;> simp)) dX12_bounded_29 ?_
      refine V_al0n dX12_bounded_32 ?_
      refine V_getZ kk104 (by decide) fl_X12_386 u2_s dX12_bounded_33 ?_
      refine V_if_eq (tgt := 43) dX12_bounded_36 rfl (by unfold ri; decide) (fun b36 => by exfalso; revert b36; decide) (fun b36 => ?_)
      refine V_lconst (a := 0) dX12_bounded_39 rfl ?_
      refine V_goto (tgt := 44) dX12_bounded_40 rfl ?_
      exact V_lreturn rfl ⟨by simp [*, over]; try omega, rfl, by simp [*, over, bz]; try omega, rfl⟩ dX12_bounded_44
    · refine V_ll1n dX12_bounded_16 ?_
      refine V_ldc2_w (a := -1000000000000) kl_X12_391 rfl dX12_bounded_17 ?_
      refine V_lif_ge (tgt := 28) dX12_bounded_20 dX12_bounded_21 rfl (by first | assumption | (unfold rl at *; omega)) (by first | assumption | (unfold rl at *; omega)) (fun b21 => ?_) (fun b21 => ?_)
      · refine V_iconst dX12_bounded_28 ?_
        refine V_putZ kk104 (by decide) fl_X12_386 rfl (by first | exact Or.inl rfl | exact Or.inr rfl | (unfold bz; split <;> simp)) dX12_bounded_29 ?_
        refine V_al0n dX12_bounded_32 ?_
        refine V_getZ kk104 (by decide) fl_X12_386 u2_s dX12_bounded_33 ?_
        refine V_if_eq (tgt := 43) dX12_bounded_36 rfl (by unfold ri; decide) (fun b36 => ?_) (fun b36 => by exfalso; revert b36; decide)
        refine V_ll1n dX12_bounded_43 ?_
        exact V_lreturn rfl ⟨by simp [*, over]; try omega, rfl, by simp [*, over, bz]; try omega, rfl⟩ dX12_bounded_44
      · refine V_iconst dX12_bounded_24 ?_
        refine V_goto (tgt := 29) dX12_bounded_25 rfl ?_
        refine V_putZ kk104 (by decide) fl_X12_386 rfl (by first | exact Or.inl rfl | exact Or.inr rfl | (unfold bz; split <;> simp)) dX12_bounded_29 ?_
        refine V_al0n dX12_bounded_32 ?_
        refine V_getZ kk104 (by decide) fl_X12_386 u2_s dX12_bounded_33 ?_
        refine V_if_eq (tgt := 43) dX12_bounded_36 rfl (by unfold ri; decide) (fun b36 => by exfalso; revert b36; decide) (fun b36 => ?_)
        refine V_lconst (a := 0) dX12_bounded_39 rfl ?_
        refine V_goto (tgt := 44) dX12_bounded_40 rfl ?_
        exact V_lreturn rfl ⟨by simp [*, over]; try omega, rfl, by simp [*, over, bz]; try omega, rfl⟩ dX12_bounded_44
def cmpb (s a b : Int) : Bool := if s = 5 then decide (a < b) else if s = 6 then decide (a ≤ b) else if s = 7 then decide (a = b) else if s = 8 then decide (¬ a = b) else if s = 9 then decide (b ≤ a) else decide (b < a)
theorem c_compares {ρ : RT} {f : IT} {g : JT} {s a b : Int} (hs : 5 ≤ s ∧ s ≤ 10) (ha : rl a) (hb : rl b) : C_X12_compares [.int (iz s), .long (lz a), .long (lz b)] ρ f g (fun r ρ' f' g' => r = some (.int (iz (bz (cmpb s a b)))) ∧ ρ' = ρ ∧ f' = f ∧ g' = g) := by
  refine Ct.ofV (by decide) rfl (by decide) ?_
  refine V_il0n dX12_compares_0 ?_
  rcases (show s = 5 ∨ s = 6 ∨ s = 7 ∨ s = 8 ∨ s = 9 ∨ s = 10 by omega) with rfl | rfl | rfl | rfl | rfl | rfl
  · refine V_tabIn (tgt := 36) (i := 0) dX12_compares_1 (by first | rfl | omega) (by decide) (by first | decide | assumption | (unfold ri at *; omega)) rfl rfl ?_
    refine V_ll1n dX12_compares_36 ?_
    refine V_ll3n dX12_compares_37 ?_
    refine V_lif_ge (tgt := 46) dX12_compares_38 dX12_compares_39 rfl (by first | assumption | (unfold rl at *; omega)) (by first | assumption | (unfold rl at *; omega)) (fun b39 => ?_) (fun b39 => ?_)
    · refine V_iconst dX12_compares_46 ?_
      exact V_zreturn rfl (by first | exact Or.inl rfl | exact Or.inr rfl | (unfold bz; split <;> simp)) ⟨by simp [cmpb, bz, *]; try omega, rfl, rfl, rfl⟩ dX12_compares_47
    · refine V_iconst dX12_compares_42 ?_
      refine V_goto (tgt := 47) dX12_compares_43 rfl ?_
      exact V_zreturn rfl (by first | exact Or.inl rfl | exact Or.inr rfl | (unfold bz; split <;> simp)) ⟨by simp [cmpb, bz, *]; try omega, rfl, rfl, rfl⟩ dX12_compares_47
  · refine V_tabIn (tgt := 48) (i := 1) dX12_compares_1 (by first | rfl | omega) (by decide) (by first | decide | assumption | (unfold ri at *; omega)) rfl rfl ?_
    refine V_ll1n dX12_compares_48 ?_
    refine V_ll3n dX12_compares_49 ?_
    refine V_lif_gt (tgt := 58) dX12_compares_50 dX12_compares_51 rfl (by first | assumption | (unfold rl at *; omega)) (by first | assumption | (unfold rl at *; omega)) (fun b51 => ?_) (fun b51 => ?_)
    · refine V_iconst dX12_compares_58 ?_
      exact V_zreturn rfl (by first | exact Or.inl rfl | exact Or.inr rfl | (unfold bz; split <;> simp)) ⟨by simp [cmpb, bz, *]; try omega, rfl, rfl, rfl⟩ dX12_compares_59
    · refine V_iconst dX12_compares_54 ?_
      refine V_goto (tgt := 59) dX12_compares_55 rfl ?_
      exact V_zreturn rfl (by first | exact Or.inl rfl | exact Or.inr rfl | (unfold bz; split <;> simp)) ⟨by simp [cmpb, bz, *]; try omega, rfl, rfl, rfl⟩ dX12_compares_59
  · refine V_tabIn (tgt := 60) (i := 2) dX12_compares_1 (by first | rfl | omega) (by decide) (by first | decide | assumption | (unfold ri at *; omega)) rfl rfl ?_
    refine V_ll1n dX12_compares_60 ?_
    refine V_ll3n dX12_compares_61 ?_
    refine V_lif_ne (tgt := 70) dX12_compares_62 dX12_compares_63 rfl (by first | assumption | (unfold rl at *; omega)) (by first | assumption | (unfold rl at *; omega)) (fun b63 => ?_) (fun b63 => ?_)
    · refine V_iconst dX12_compares_70 ?_
      exact V_zreturn rfl (by first | exact Or.inl rfl | exact Or.inr rfl | (unfold bz; split <;> simp)) ⟨by simp [cmpb, bz, *]; try omega, rfl, rfl, rfl⟩ dX12_compares_71
    · refine V_iconst dX12_compares_66 ?_
      refine V_goto (tgt := 71) dX12_compares_67 rfl ?_
      exact V_zreturn rfl (by first | exact Or.inl rfl | exact Or.inr rfl | (unfold bz; split <;> simp)) ⟨by simp [cmpb, bz, *]; try omega, rfl, rfl, rfl⟩ dX12_compares_71
  · refine V_tabIn (tgt := 72) (i := 3) dX12_compares_1 (by first | rfl | omega) (by decide) (by first | decide | assumption | (unfold ri at *; omega)) rfl rfl ?_
    refine V_ll1n dX12_compares_72 ?_
    refine V_ll3n dX12_compares_73 ?_
    refine V_lif_eq (tgt := 82) dX12_compares_74 dX12_compares_75 rfl (by first | assumption | (unfold rl at *; omega)) (by first | assumption | (unfold rl at *; omega)) (fun b75 => ?_) (fun b75 => ?_)
    · refine V_iconst dX12_compares_82 ?_
      exact V_zreturn rfl (by first | exact Or.inl rfl | exact Or.inr rfl | (unfold bz; split <;> simp)) ⟨by simp [cmpb, bz, *]; try omega, rfl, rfl, rfl⟩ dX12_compares_83
    · refine V_iconst dX12_compares_78 ?_
      refine V_goto (tgt := 83) dX12_compares_79 rfl ?_
      exact V_zreturn rfl (by first | exact Or.inl rfl | exact Or.inr rfl | (unfold bz; split <;> simp)) ⟨by simp [cmpb, bz, *]; try omega, rfl, rfl, rfl⟩ dX12_compares_83
  · refine V_tabIn (tgt := 84) (i := 4) dX12_compares_1 (by first | rfl | omega) (by decide) (by first | decide | assumption | (unfold ri at *; omega)) rfl rfl ?_
    refine V_ll1n dX12_compares_84 ?_
    refine V_ll3n dX12_compares_85 ?_
    refine V_lif_lt (tgt := 94) dX12_compares_86 dX12_compares_87 rfl (by first | assumption | (unfold rl at *; omega)) (by first | assumption | (unfold rl at *; omega)) (fun b87 => ?_) (fun b87 => ?_)
    · refine V_iconst dX12_compares_94 ?_
      exact V_zreturn rfl (by first | exact Or.inl rfl | exact Or.inr rfl | (unfold bz; split <;> simp)) ⟨by simp [cmpb, bz, *]; try omega, rfl, rfl, rfl⟩ dX12_compares_95
    · refine V_iconst dX12_compares_90 ?_
      refine V_goto (tgt := 95) dX12_compares_91 rfl ?_
      exact V_zreturn rfl (by first | exact Or.inl rfl | exact Or.inr rfl | (unfold bz; split <;> simp)) ⟨by simp [cmpb, bz, *]; try omega, rfl, rfl, rfl⟩ dX12_compares_95
  · refine V_tabOut (tgt := 96) dX12_compares_1 (by omega) (by first | assumption | (unfold ri at *; omega)) rfl ?_
    refine V_ll1n dX12_compares_96 ?_
    refine V_ll3n dX12_compares_97 ?_
    refine V_lif_le (tgt := 106) dX12_compares_98 dX12_compares_99 rfl (by first | assumption | (unfold rl at *; omega)) (by first | assumption | (unfold rl at *; omega)) (fun b99 => ?_) (fun b99 => ?_)
    · refine V_iconst dX12_compares_106 ?_
      exact V_zreturn rfl (by first | exact Or.inl rfl | exact Or.inr rfl | (unfold bz; split <;> simp)) ⟨by simp [cmpb, bz, *]; try omega, rfl, rfl, rfl⟩ dX12_compares_107
    · refine V_iconst dX12_compares_102 ?_
      refine V_goto (tgt := 107) dX12_compares_103 rfl ?_
      exact V_zreturn rfl (by first | exact Or.inl rfl | exact Or.inr rfl | (unfold bz; split <;> simp)) ⟨by simp [cmpb, bz, *]; try omega, rfl, rfl, rfl⟩ dX12_compares_107
theorem mul_over {a b : Int} (ha : a ≠ 0) (hb : b ≠ 0) : ((1000000000000 / (if a < 0 then -a else a)) < (if b < 0 then -b else b)) ↔ over (a * b) = true := by
  have key : ∀ p q : Int, 0 < p → 0 < q → (1000000000000 / p < q ↔ 1000000000000 < p * q) := by
    intro p q hp hq
    rw [Int.ediv_lt_iff_lt_mul hp, Int.mul_comm]
  unfold over
  rw [decide_eq_true_eq]
  by_cases h1 : a < 0 <;> by_cases h2 : b < 0 <;> simp only [h1, h2, if_true, if_false]
  · rw [key _ _ (by omega) (by omega), Int.neg_mul_neg]
    have : 0 < a * b := Int.mul_pos_of_neg_of_neg h1 h2
    omega
  · rw [key _ _ (by omega) (by omega), Int.neg_mul]
    have : a * b < 0 := Int.mul_neg_of_neg_of_pos h1 (by omega)
    omega
  · rw [key _ _ (by omega) (by omega), Int.mul_neg]
    have : a * b < 0 := Int.mul_neg_of_pos_of_neg (by omega) h2
    omega
  · rw [key _ _ (by omega) (by omega)]
    have : 0 < a * b := Int.mul_pos (by omega) (by omega)
    omega

