/-! laws: what a knot is worth, and a law -/
def BND : Int := 1000000000000
def over (x : Int) : Bool := decide (1000000000000 < x ∨ x < -1000000000000)
theorem c_bounded {ρ : RT} {f : IT} {g : JT} {e : Bool} {x : Int} (he : f 104 66 = bz e) (hx : rl x) : C_X12_bounded [.ref 104, .long (lz x)] ρ f g (fun r ρ' f' g' => r = some (.long (lz (if (e || over x) = true then 0 else x))) ∧ ρ' = ρ ∧ f' = u2 f 104 66 (bz (e || over x)) ∧ g' = g) := by
  refine Ct.ofV (by decide) rfl (Nat.le_of_ble_eq_true rfl) ?_
  refine V_al0n dX12_bounded_0 ?_
  refine V_al0n dX12_bounded_1 ?_
  refine V_getZ kk104 (by decide) fl_X12_386 he dX12_bounded_2 ?_
  refine V_bf (tgt := 24) dX12_bounded_5 rfl (fun b5 => ?_) (fun b5 => ?_)
  · refine V_iconst dX12_bounded_24 ?_
    refine V_goto (tgt := 29) dX12_bounded_25 rfl ?_
    refine V_putZ kk104 (by decide) fl_X12_386 rfl (by first | exact Or.inl rfl | exact Or.inr rfl | (unfold bz; split <;> simp)) dX12_bounded_29 ?_
    refine V_al0n dX12_bounded_32 ?_
    refine V_getZ kk104 (by decide) fl_X12_386 u2_s dX12_bounded_33 ?_
    refine V_if_eq (tgt := 43) dX12_bounded_36 rfl (by unfold ri; decide) (fun b36 => by exfalso; revert b36; decide) (fun b36 => ?_)
    refine V_lconst (a := 0) dX12_bounded_39 rfl ?_
    refine V_goto (tgt := 44) dX12_bounded_40 rfl ?_
    exact V_lreturn rfl ⟨by simp [*, over]; try (split <;> first | rfl | (exfalso; omega)), rfl, by simp [*, over, bz]; try (split <;> first | rfl | (exfalso; omega)), rfl⟩ dX12_bounded_44
  · refine V_ll1n dX12_bounded_8 ?_
    refine V_ldc2_w (a := 1000000000000) kl_X12_389 rfl dX12_bounded_9 ?_
    refine V_lif_gt (tgt := 24) dX12_bounded_12 dX12_bounded_13 rfl (by first | assumption | (unfold rl at *; omega)) (by first | assumption | (unfold rl at *; omega)) (fun b13 => ?_) (fun b13 => ?_)
    · refine V_iconst dX12_bounded_24 ?_
      refine V_goto (tgt := 29) dX12_bounded_25 rfl ?_
      refine V_putZ kk104 (by decide) fl_X12_386 rfl (by first | exact Or.inl rfl | exact Or.inr rfl | (unfold bz; split <;> simp)) dX12_bounded_29 ?_
      refine V_al0n dX12_bounded_32 ?_
      refine V_getZ kk104 (by decide) fl_X12_386 u2_s dX12_bounded_33 ?_
      refine V_if_eq (tgt := 43) dX12_bounded_36 rfl (by unfold ri; decide) (fun b36 => by exfalso; revert b36; decide) (fun b36 => ?_)
      refine V_lconst (a := 0) dX12_bounded_39 rfl ?_
      refine V_goto (tgt := 44) dX12_bounded_40 rfl ?_
      exact V_lreturn rfl ⟨by simp [*, over]; try (split <;> first | rfl | (exfalso; omega)), rfl, by simp [*, over, bz]; try (split <;> first | rfl | (exfalso; omega)), rfl⟩ dX12_bounded_44
    · refine V_ll1n dX12_bounded_16 ?_
      refine V_ldc2_w (a := -1000000000000) kl_X12_391 rfl dX12_bounded_17 ?_
      refine V_lif_ge (tgt := 28) dX12_bounded_20 dX12_bounded_21 rfl (by first | assumption | (unfold rl at *; omega)) (by first | assumption | (unfold rl at *; omega)) (fun b21 => ?_) (fun b21 => ?_)
      · refine V_iconst dX12_bounded_28 ?_
        refine V_putZ kk104 (by decide) fl_X12_386 rfl (by first | exact Or.inl rfl | exact Or.inr rfl | (unfold bz; split <;> simp)) dX12_bounded_29 ?_
        refine V_al0n dX12_bounded_32 ?_
        refine V_getZ kk104 (by decide) fl_X12_386 u2_s dX12_bounded_33 ?_
        refine V_if_eq (tgt := 43) dX12_bounded_36 rfl (by unfold ri; decide) (fun b36 => ?_) (fun b36 => by exfalso; revert b36; decide)
        refine V_ll1n dX12_bounded_43 ?_
        exact V_lreturn rfl ⟨by simp [*, over]; try (split <;> first | rfl | (exfalso; omega)), rfl, by simp [*, over, bz]; try (split <;> first | rfl | (exfalso; omega)), rfl⟩ dX12_bounded_44
      · refine V_iconst dX12_bounded_24 ?_
        refine V_goto (tgt := 29) dX12_bounded_25 rfl ?_
        refine V_putZ kk104 (by decide) fl_X12_386 rfl (by first | exact Or.inl rfl | exact Or.inr rfl | (unfold bz; split <;> simp)) dX12_bounded_29 ?_
        refine V_al0n dX12_bounded_32 ?_
        refine V_getZ kk104 (by decide) fl_X12_386 u2_s dX12_bounded_33 ?_
        refine V_if_eq (tgt := 43) dX12_bounded_36 rfl (by unfold ri; decide) (fun b36 => by exfalso; revert b36; decide) (fun b36 => ?_)
        refine V_lconst (a := 0) dX12_bounded_39 rfl ?_
        refine V_goto (tgt := 44) dX12_bounded_40 rfl ?_
        exact V_lreturn rfl ⟨by simp [*, over]; try (split <;> first | rfl | (exfalso; omega)), rfl, by simp [*, over, bz]; try (split <;> first | rfl | (exfalso; omega)), rfl⟩ dX12_bounded_44
def cmpb (s a b : Int) : Bool := if s = 5 then decide (a < b) else if s = 6 then decide (a ≤ b) else if s = 7 then decide (a = b) else if s = 8 then decide (¬ a = b) else if s = 9 then decide (b ≤ a) else decide (b < a)
theorem c_compares {ρ : RT} {f : IT} {g : JT} {s a b : Int} (hs : 5 ≤ s ∧ s ≤ 10) (ha : rl a) (hb : rl b) : C_X12_compares [.int (iz s), .long (lz a), .long (lz b)] ρ f g (fun r ρ' f' g' => r = some (.int (iz (bz (cmpb s a b)))) ∧ ρ' = ρ ∧ f' = f ∧ g' = g) := by
  refine Ct.ofV (by decide) rfl (Nat.le_of_ble_eq_true rfl) ?_
  refine V_il0n dX12_compares_0 ?_
  rcases (show s = 5 ∨ s = 6 ∨ s = 7 ∨ s = 8 ∨ s = 9 ∨ s = 10 by omega) with rfl | rfl | rfl | rfl | rfl | rfl
  · refine V_tabIn (tgt := 36) (i := 0) dX12_compares_1 (by first | rfl | omega) (by decide) (by first | decide | assumption | (unfold ri at *; omega)) rfl rfl ?_
    refine V_ll1n dX12_compares_36 ?_
    refine V_ll3n dX12_compares_37 ?_
    refine V_lif_ge (tgt := 46) dX12_compares_38 dX12_compares_39 rfl (by first | assumption | (unfold rl at *; omega)) (by first | assumption | (unfold rl at *; omega)) (fun b39 => ?_) (fun b39 => ?_)
    · refine V_iconst dX12_compares_46 ?_
      exact V_zreturn rfl (by first | exact Or.inl rfl | exact Or.inr rfl | (unfold bz; split <;> simp)) ⟨by simp [cmpb, bz, *]; try (split <;> first | rfl | (exfalso; omega)), rfl, rfl, rfl⟩ dX12_compares_47
    · refine V_iconst dX12_compares_42 ?_
      refine V_goto (tgt := 47) dX12_compares_43 rfl ?_
      exact V_zreturn rfl (by first | exact Or.inl rfl | exact Or.inr rfl | (unfold bz; split <;> simp)) ⟨by simp [cmpb, bz, *]; try (split <;> first | rfl | (exfalso; omega)), rfl, rfl, rfl⟩ dX12_compares_47
  · refine V_tabIn (tgt := 48) (i := 1) dX12_compares_1 (by first | rfl | omega) (by decide) (by first | decide | assumption | (unfold ri at *; omega)) rfl rfl ?_
    refine V_ll1n dX12_compares_48 ?_
    refine V_ll3n dX12_compares_49 ?_
    refine V_lif_gt (tgt := 58) dX12_compares_50 dX12_compares_51 rfl (by first | assumption | (unfold rl at *; omega)) (by first | assumption | (unfold rl at *; omega)) (fun b51 => ?_) (fun b51 => ?_)
    · refine V_iconst dX12_compares_58 ?_
      exact V_zreturn rfl (by first | exact Or.inl rfl | exact Or.inr rfl | (unfold bz; split <;> simp)) ⟨by simp [cmpb, bz, *]; try (split <;> first | rfl | (exfalso; omega)), rfl, rfl, rfl⟩ dX12_compares_59
    · refine V_iconst dX12_compares_54 ?_
      refine V_goto (tgt := 59) dX12_compares_55 rfl ?_
      exact V_zreturn rfl (by first | exact Or.inl rfl | exact Or.inr rfl | (unfold bz; split <;> simp)) ⟨by simp [cmpb, bz, *]; try (split <;> first | rfl | (exfalso; omega)), rfl, rfl, rfl⟩ dX12_compares_59
  · refine V_tabIn (tgt := 60) (i := 2) dX12_compares_1 (by first | rfl | omega) (by decide) (by first | decide | assumption | (unfold ri at *; omega)) rfl rfl ?_
    refine V_ll1n dX12_compares_60 ?_
    refine V_ll3n dX12_compares_61 ?_
    refine V_lif_ne (tgt := 70) dX12_compares_62 dX12_compares_63 rfl (by first | assumption | (unfold rl at *; omega)) (by first | assumption | (unfold rl at *; omega)) (fun b63 => ?_) (fun b63 => ?_)
    · refine V_iconst dX12_compares_70 ?_
      exact V_zreturn rfl (by first | exact Or.inl rfl | exact Or.inr rfl | (unfold bz; split <;> simp)) ⟨by simp [cmpb, bz, *]; try (split <;> first | rfl | (exfalso; omega)), rfl, rfl, rfl⟩ dX12_compares_71
    · refine V_iconst dX12_compares_66 ?_
      refine V_goto (tgt := 71) dX12_compares_67 rfl ?_
      exact V_zreturn rfl (by first | exact Or.inl rfl | exact Or.inr rfl | (unfold bz; split <;> simp)) ⟨by simp [cmpb, bz, *]; try (split <;> first | rfl | (exfalso; omega)), rfl, rfl, rfl⟩ dX12_compares_71
  · refine V_tabIn (tgt := 72) (i := 3) dX12_compares_1 (by first | rfl | omega) (by decide) (by first | decide | assumption | (unfold ri at *; omega)) rfl rfl ?_
    refine V_ll1n dX12_compares_72 ?_
    refine V_ll3n dX12_compares_73 ?_
    refine V_lif_eq (tgt := 82) dX12_compares_74 dX12_compares_75 rfl (by first | assumption | (unfold rl at *; omega)) (by first | assumption | (unfold rl at *; omega)) (fun b75 => ?_) (fun b75 => ?_)
    · refine V_iconst dX12_compares_82 ?_
      exact V_zreturn rfl (by first | exact Or.inl rfl | exact Or.inr rfl | (unfold bz; split <;> simp)) ⟨by simp [cmpb, bz, *]; try (split <;> first | rfl | (exfalso; omega)), rfl, rfl, rfl⟩ dX12_compares_83
    · refine V_iconst dX12_compares_78 ?_
      refine V_goto (tgt := 83) dX12_compares_79 rfl ?_
      exact V_zreturn rfl (by first | exact Or.inl rfl | exact Or.inr rfl | (unfold bz; split <;> simp)) ⟨by simp [cmpb, bz, *]; try (split <;> first | rfl | (exfalso; omega)), rfl, rfl, rfl⟩ dX12_compares_83
  · refine V_tabIn (tgt := 84) (i := 4) dX12_compares_1 (by first | rfl | omega) (by decide) (by first | decide | assumption | (unfold ri at *; omega)) rfl rfl ?_
    refine V_ll1n dX12_compares_84 ?_
    refine V_ll3n dX12_compares_85 ?_
    refine V_lif_lt (tgt := 94) dX12_compares_86 dX12_compares_87 rfl (by first | assumption | (unfold rl at *; omega)) (by first | assumption | (unfold rl at *; omega)) (fun b87 => ?_) (fun b87 => ?_)
    · refine V_iconst dX12_compares_94 ?_
      exact V_zreturn rfl (by first | exact Or.inl rfl | exact Or.inr rfl | (unfold bz; split <;> simp)) ⟨by simp [cmpb, bz, *]; try (split <;> first | rfl | (exfalso; omega)), rfl, rfl, rfl⟩ dX12_compares_95
    · refine V_iconst dX12_compares_90 ?_
      refine V_goto (tgt := 95) dX12_compares_91 rfl ?_
      exact V_zreturn rfl (by first | exact Or.inl rfl | exact Or.inr rfl | (unfold bz; split <;> simp)) ⟨by simp [cmpb, bz, *]; try (split <;> first | rfl | (exfalso; omega)), rfl, rfl, rfl⟩ dX12_compares_95
  · refine V_tabOut (tgt := 96) dX12_compares_1 (by omega) (by first | assumption | (unfold ri at *; omega)) rfl ?_
    refine V_ll1n dX12_compares_96 ?_
    refine V_ll3n dX12_compares_97 ?_
    refine V_lif_le (tgt := 106) dX12_compares_98 dX12_compares_99 rfl (by first | assumption | (unfold rl at *; omega)) (by first | assumption | (unfold rl at *; omega)) (fun b99 => ?_) (fun b99 => ?_)
    · refine V_iconst dX12_compares_106 ?_
      exact V_zreturn rfl (by first | exact Or.inl rfl | exact Or.inr rfl | (unfold bz; split <;> simp)) ⟨by simp [cmpb, bz, *]; try (split <;> first | rfl | (exfalso; omega)), rfl, rfl, rfl⟩ dX12_compares_107
    · refine V_iconst dX12_compares_102 ?_
      refine V_goto (tgt := 107) dX12_compares_103 rfl ?_
      exact V_zreturn rfl (by first | exact Or.inl rfl | exact Or.inr rfl | (unfold bz; split <;> simp)) ⟨by simp [cmpb, bz, *]; try (split <;> first | rfl | (exfalso; omega)), rfl, rfl, rfl⟩ dX12_compares_107
theorem mul_over {a b : Int} (ha : a ≠ 0) (hb : b ≠ 0) : ((1000000000000 / (if a < 0 then -a else a)) < (if b < 0 then -b else b)) ↔ over (a * b) = true := by
  have key : ∀ p q : Int, 0 < p → 0 < q → (1000000000000 / p < q ↔ 1000000000000 < p * q) := by
    intro p q hp hq
    rw [Int.ediv_lt_iff_lt_mul hp, Int.mul_comm]
  unfold over
  rw [decide_eq_true_eq]
  by_cases h1 : a < 0 <;> by_cases h2 : b < 0 <;> simp only [h1, h2, if_true, if_false]
  · rw [key _ _ (by omega) (by omega), Int.neg_mul_neg]
    have : 0 < a * b := Int.mul_pos_of_neg_of_neg h1 h2
    omega
  · rw [key _ _ (by omega) (by omega), Int.neg_mul]
    have : a * b < 0 := Int.mul_neg_of_neg_of_pos h1 (by omega)
    omega
  · rw [key _ _ (by omega) (by omega), Int.mul_neg]
    have : a * b < 0 := Int.mul_neg_of_pos_of_neg (by omega) h2
    omega
  · rw [key _ _ (by omega) (by omega)]
    have : 0 < a * b := Int.mul_pos (by omega) (by omega)
    omega
theorem rl_div {p : Int} (hp : 0 < p) : rl (1000000000000 / p) := by
  have h1 : 0 ≤ 1000000000000 / p := Int.ediv_nonneg (by omega) (by omega)
  have h2 : 1000000000000 / p ≤ 1000000000000 := Int.ediv_le_self p (by omega)
  unfold rl
  omega
theorem lz_ne {a : Int} (ha : rl a) (h : a ≠ 0) : ¬ lz a = 0 := fun h9 => h ((lz_inj ha (b := 0) (by unfold rl; omega)).mp h9)
theorem iz_ne {a : Int} (ha : ri a) (h : a ≠ 0) : ¬ iz a = 0 := fun h9 => h ((iz_inj ha (b := 0) (by unfold ri; omega)).mp h9)
theorem mul_rl {a b : Int} (ho : over (a * b) = false) : rl (a * b) := by
  unfold over at ho
  unfold rl
  simp at ho
  omega
theorem c_times {ρ : RT} {f : IT} {g : JT} {e : Bool} {a b : Int} (he : f 104 66 = bz e) (ha : -1000000000000 ≤ a ∧ a ≤ 1000000000000) (hb : -1000000000000 ≤ b ∧ b ≤ 1000000000000) : C_X12_times [.ref 104, .long (lz a), .long (lz b)] ρ f g (fun r ρ' f' g' => r = some (.long (lz (if (e || over (a * b)) = true then 0 else a * b))) ∧ ρ' = ρ ∧ f' = u2 f 104 66 (bz (e || over (a * b))) ∧ g' = g) := by
  refine Ct.ofV (by decide) rfl (Nat.le_of_ble_eq_true rfl) ?_
  refine V_ll1n dX12_times_0 ?_
  refine V_lconst (a := 0) dX12_times_1 rfl ?_
  refine V_lif_eq (tgt := 48) dX12_times_2 dX12_times_3 rfl (by first | assumption | (unfold rl at *; omega)) (by first | assumption | (unfold rl at *; omega)) (fun b3 => ?_) (fun b3 => ?_)
  · have ho : over (a * b) = false := by simp [b3, over]
    refine V_iconst dX12_times_48 ?_
    refine V_is5 dX12_times_49 (by decide) rfl ?_
    refine V_al0n dX12_times_51 ?_
    refine V_al0n dX12_times_52 ?_
    refine V_getZ kk104 (by decide) fl_X12_386 he dX12_times_53 ?_
    refine V_bf (tgt := 64) dX12_times_56 rfl (fun b56 => ?_) (fun b56 => ?_)
    · refine V_iconst dX12_times_64 ?_
      refine V_goto (tgt := 69) dX12_times_65 rfl ?_
      refine V_putZ kk104 (by decide) fl_X12_386 rfl (by first | exact Or.inl rfl | exact Or.inr rfl | (unfold bz; split <;> simp)) dX12_times_69 ?_
      refine V_al0n dX12_times_72 ?_
      refine V_getZ kk104 (by decide) fl_X12_386 u2_s dX12_times_73 ?_
      refine V_if_eq (tgt := 83) dX12_times_76 rfl (by unfold ri; decide) (fun b76 => by exfalso; revert b76; decide) (fun b76 => ?_)
      refine V_lconst (a := 0) dX12_times_79 rfl ?_
      refine V_goto (tgt := 86) dX12_times_80 rfl ?_
      exact V_lreturn rfl ⟨by simp [*], rfl, by first | (simp [*, bz]; done) | simp [*, bz, over], rfl⟩ dX12_times_86
    · refine V_il5 dX12_times_59 ?_
      refine V_if_eq (tgt := 68) dX12_times_61 rfl (by unfold ri; decide) (fun b61 => ?_) (fun b61 => by exfalso; revert b61; decide)
      refine V_iconst dX12_times_68 ?_
      refine V_putZ kk104 (by decide) fl_X12_386 rfl (by first | exact Or.inl rfl | exact Or.inr rfl | (unfold bz; split <;> simp)) dX12_times_69 ?_
      refine V_al0n dX12_times_72 ?_
      refine V_getZ kk104 (by decide) fl_X12_386 u2_s dX12_times_73 ?_
      refine V_if_eq (tgt := 83) dX12_times_76 rfl (by unfold ri; decide) (fun b76 => ?_) (fun b76 => by exfalso; revert b76; decide)
      refine V_ll1n dX12_times_83 ?_
      refine V_ll3n dX12_times_84 ?_
      refine V_lmul dX12_times_85 ?_
      exact V_lreturn rfl ⟨by simp [*], rfl, by first | (simp [*, bz]; done) | simp [*, bz, over], rfl⟩ dX12_times_86
  · refine V_ll3n dX12_times_6 ?_
    refine V_lconst (a := 0) dX12_times_7 rfl ?_
    refine V_lif_eq (tgt := 48) dX12_times_8 dX12_times_9 rfl (by first | assumption | (unfold rl at *; omega)) (by first | assumption | (unfold rl at *; omega)) (fun b9 => ?_) (fun b9 => ?_)
    · have ho : over (a * b) = false := by simp [b9, over]
      refine V_iconst dX12_times_48 ?_
      refine V_is5 dX12_times_49 (by decide) rfl ?_
      refine V_al0n dX12_times_51 ?_
      refine V_al0n dX12_times_52 ?_
      refine V_getZ kk104 (by decide) fl_X12_386 he dX12_times_53 ?_
      refine V_bf (tgt := 64) dX12_times_56 rfl (fun b56 => ?_) (fun b56 => ?_)
      · refine V_iconst dX12_times_64 ?_
        refine V_goto (tgt := 69) dX12_times_65 rfl ?_
        refine V_putZ kk104 (by decide) fl_X12_386 rfl (by first | exact Or.inl rfl | exact Or.inr rfl | (unfold bz; split <;> simp)) dX12_times_69 ?_
        refine V_al0n dX12_times_72 ?_
        refine V_getZ kk104 (by decide) fl_X12_386 u2_s dX12_times_73 ?_
        refine V_if_eq (tgt := 83) dX12_times_76 rfl (by unfold ri; decide) (fun b76 => by exfalso; revert b76; decide) (fun b76 => ?_)
        refine V_lconst (a := 0) dX12_times_79 rfl ?_
        refine V_goto (tgt := 86) dX12_times_80 rfl ?_
        exact V_lreturn rfl ⟨by simp [*], rfl, by first | (simp [*, bz]; done) | simp [*, bz, over], rfl⟩ dX12_times_86
      · refine V_il5 dX12_times_59 ?_
        refine V_if_eq (tgt := 68) dX12_times_61 rfl (by unfold ri; decide) (fun b61 => ?_) (fun b61 => by exfalso; revert b61; decide)
        refine V_iconst dX12_times_68 ?_
        refine V_putZ kk104 (by decide) fl_X12_386 rfl (by first | exact Or.inl rfl | exact Or.inr rfl | (unfold bz; split <;> simp)) dX12_times_69 ?_
        refine V_al0n dX12_times_72 ?_
        refine V_getZ kk104 (by decide) fl_X12_386 u2_s dX12_times_73 ?_
        refine V_if_eq (tgt := 83) dX12_times_76 rfl (by unfold ri; decide) (fun b76 => ?_) (fun b76 => by exfalso; revert b76; decide)
        refine V_ll1n dX12_times_83 ?_
        refine V_ll3n dX12_times_84 ?_
        refine V_lmul dX12_times_85 ?_
        exact V_lreturn rfl ⟨by simp [*], rfl, by first | (simp [*, bz]; done) | simp [*, bz, over], rfl⟩ dX12_times_86
    · refine V_ll3n dX12_times_12 ?_
      refine V_lconst (a := 0) dX12_times_13 rfl ?_
      refine V_lif_ge (tgt := 23) dX12_times_14 dX12_times_15 rfl (by first | assumption | (unfold rl at *; omega)) (by first | assumption | (unfold rl at *; omega)) (fun b15 => ?_) (fun b15 => ?_)
      · refine V_ll3n dX12_times_23 ?_
        refine V_ldc2_w (a := 1000000000000) kl_X12_389 rfl dX12_times_24 ?_
        refine V_ll1n dX12_times_27 ?_
        refine V_lconst (a := 0) dX12_times_28 rfl ?_
        refine V_lif_ge (tgt := 38) dX12_times_29 dX12_times_30 rfl (by first | assumption | (unfold rl at *; omega)) (by first | assumption | (unfold rl at *; omega)) (fun b30 => ?_) (fun b30 => ?_)
        · refine V_ll1n dX12_times_38 ?_
          refine V_ldiv dX12_times_39 (lz_ne (by unfold rl; omega) (by omega)) (lz_div (by omega) (by omega) (by unfold rl; omega) (by unfold rl; omega)) ?_
          refine V_lif_le (tgt := 48) dX12_times_40 dX12_times_41 rfl (by unfold rl; omega) (rl_div (by omega)) (fun b41 => ?_) (fun b41 => ?_)
          · have ho : over (a * b) = false := Bool.eq_false_iff.mpr (fun h => absurd ((mul_over b3 b9).mpr h) (by (repeat' split) <;> omega))
            refine V_iconst dX12_times_48 ?_
            refine V_is5 dX12_times_49 (by decide) rfl ?_
            refine V_al0n dX12_times_51 ?_
            refine V_al0n dX12_times_52 ?_
            refine V_getZ kk104 (by decide) fl_X12_386 he dX12_times_53 ?_
            refine V_bf (tgt := 64) dX12_times_56 rfl (fun b56 => ?_) (fun b56 => ?_)
            · refine V_iconst dX12_times_64 ?_
              refine V_goto (tgt := 69) dX12_times_65 rfl ?_
              refine V_putZ kk104 (by decide) fl_X12_386 rfl (by first | exact Or.inl rfl | exact Or.inr rfl | (unfold bz; split <;> simp)) dX12_times_69 ?_
              refine V_al0n dX12_times_72 ?_
              refine V_getZ kk104 (by decide) fl_X12_386 u2_s dX12_times_73 ?_
              refine V_if_eq (tgt := 83) dX12_times_76 rfl (by unfold ri; decide) (fun b76 => by exfalso; revert b76; decide) (fun b76 => ?_)
              refine V_lconst (a := 0) dX12_times_79 rfl ?_
              refine V_goto (tgt := 86) dX12_times_80 rfl ?_
              exact V_lreturn rfl ⟨by simp [*], rfl, by first | (simp [*, bz]; done) | simp [*, bz, over], rfl⟩ dX12_times_86
            · refine V_il5 dX12_times_59 ?_
              refine V_if_eq (tgt := 68) dX12_times_61 rfl (by unfold ri; decide) (fun b61 => ?_) (fun b61 => by exfalso; revert b61; decide)
              refine V_iconst dX12_times_68 ?_
              refine V_putZ kk104 (by decide) fl_X12_386 rfl (by first | exact Or.inl rfl | exact Or.inr rfl | (unfold bz; split <;> simp)) dX12_times_69 ?_
              refine V_al0n dX12_times_72 ?_
              refine V_getZ kk104 (by decide) fl_X12_386 u2_s dX12_times_73 ?_
              refine V_if_eq (tgt := 83) dX12_times_76 rfl (by unfold ri; decide) (fun b76 => ?_) (fun b76 => by exfalso; revert b76; decide)
              refine V_ll1n dX12_times_83 ?_
              refine V_ll3n dX12_times_84 ?_
              refine V_lmul dX12_times_85 ?_
              exact V_lreturn rfl ⟨by simp [*], rfl, by first | (simp [*, bz]; done) | simp [*, bz, over], rfl⟩ dX12_times_86
          · have ho : over (a * b) = true := (mul_over b3 b9).mp (by (repeat' split) <;> omega)
            refine V_iconst dX12_times_44 ?_
            refine V_goto (tgt := 49) dX12_times_45 rfl ?_
            refine V_is5 dX12_times_49 (by decide) rfl ?_
            refine V_al0n dX12_times_51 ?_
            refine V_al0n dX12_times_52 ?_
            refine V_getZ kk104 (by decide) fl_X12_386 he dX12_times_53 ?_
            refine V_bf (tgt := 64) dX12_times_56 rfl (fun b56 => ?_) (fun b56 => ?_)
            · refine V_iconst dX12_times_64 ?_
              refine V_goto (tgt := 69) dX12_times_65 rfl ?_
              refine V_putZ kk104 (by decide) fl_X12_386 rfl (by first | exact Or.inl rfl | exact Or.inr rfl | (unfold bz; split <;> simp)) dX12_times_69 ?_
              refine V_al0n dX12_times_72 ?_
              refine V_getZ kk104 (by decide) fl_X12_386 u2_s dX12_times_73 ?_
              refine V_if_eq (tgt := 83) dX12_times_76 rfl (by unfold ri; decide) (fun b76 => by exfalso; revert b76; decide) (fun b76 => ?_)
              refine V_lconst (a := 0) dX12_times_79 rfl ?_
              refine V_goto (tgt := 86) dX12_times_80 rfl ?_
              exact V_lreturn rfl ⟨by simp [*], rfl, by first | (simp [*, bz]; done) | simp [*, bz, over], rfl⟩ dX12_times_86
            · refine V_il5 dX12_times_59 ?_
              refine V_if_eq (tgt := 68) dX12_times_61 rfl (by unfold ri; decide) (fun b61 => by exfalso; revert b61; decide) (fun b61 => ?_)
              refine V_iconst dX12_times_64 ?_
              refine V_goto (tgt := 69) dX12_times_65 rfl ?_
              refine V_putZ kk104 (by decide) fl_X12_386 rfl (by first | exact Or.inl rfl | exact Or.inr rfl | (unfold bz; split <;> simp)) dX12_times_69 ?_
              refine V_al0n dX12_times_72 ?_
              refine V_getZ kk104 (by decide) fl_X12_386 u2_s dX12_times_73 ?_
              refine V_if_eq (tgt := 83) dX12_times_76 rfl (by unfold ri; decide) (fun b76 => by exfalso; revert b76; decide) (fun b76 => ?_)
              refine V_lconst (a := 0) dX12_times_79 rfl ?_
              refine V_goto (tgt := 86) dX12_times_80 rfl ?_
              exact V_lreturn rfl ⟨by simp [*], rfl, by first | (simp [*, bz]; done) | simp [*, bz, over], rfl⟩ dX12_times_86
        · refine V_ll1n dX12_times_33 ?_
          refine V_lneg dX12_times_34 ?_
          refine V_goto (tgt := 39) dX12_times_35 rfl ?_
          refine V_ldiv dX12_times_39 (lz_ne (by unfold rl; omega) (by omega)) (lz_div (by omega) (by omega) (by unfold rl; omega) (by unfold rl; omega)) ?_
          refine V_lif_le (tgt := 48) dX12_times_40 dX12_times_41 rfl (by unfold rl; omega) (rl_div (by omega)) (fun b41 => ?_) (fun b41 => ?_)
          · have ho : over (a * b) = false := Bool.eq_false_iff.mpr (fun h => absurd ((mul_over b3 b9).mpr h) (by (repeat' split) <;> omega))
            refine V_iconst dX12_times_48 ?_
            refine V_is5 dX12_times_49 (by decide) rfl ?_
            refine V_al0n dX12_times_51 ?_
            refine V_al0n dX12_times_52 ?_
            refine V_getZ kk104 (by decide) fl_X12_386 he dX12_times_53 ?_
            refine V_bf (tgt := 64) dX12_times_56 rfl (fun b56 => ?_) (fun b56 => ?_)
            · refine V_iconst dX12_times_64 ?_
              refine V_goto (tgt := 69) dX12_times_65 rfl ?_
              refine V_putZ kk104 (by decide) fl_X12_386 rfl (by first | exact Or.inl rfl | exact Or.inr rfl | (unfold bz; split <;> simp)) dX12_times_69 ?_
              refine V_al0n dX12_times_72 ?_
              refine V_getZ kk104 (by decide) fl_X12_386 u2_s dX12_times_73 ?_
              refine V_if_eq (tgt := 83) dX12_times_76 rfl (by unfold ri; decide) (fun b76 => by exfalso; revert b76; decide) (fun b76 => ?_)
              refine V_lconst (a := 0) dX12_times_79 rfl ?_
              refine V_goto (tgt := 86) dX12_times_80 rfl ?_
              exact V_lreturn rfl ⟨by simp [*], rfl, by first | (simp [*, bz]; done) | simp [*, bz, over], rfl⟩ dX12_times_86
            · refine V_il5 dX12_times_59 ?_
              refine V_if_eq (tgt := 68) dX12_times_61 rfl (by unfold ri; decide) (fun b61 => ?_) (fun b61 => by exfalso; revert b61; decide)
              refine V_iconst dX12_times_68 ?_
              refine V_putZ kk104 (by decide) fl_X12_386 rfl (by first | exact Or.inl rfl | exact Or.inr rfl | (unfold bz; split <;> simp)) dX12_times_69 ?_
              refine V_al0n dX12_times_72 ?_
              refine V_getZ kk104 (by decide) fl_X12_386 u2_s dX12_times_73 ?_
              refine V_if_eq (tgt := 83) dX12_times_76 rfl (by unfold ri; decide) (fun b76 => ?_) (fun b76 => by exfalso; revert b76; decide)
              refine V_ll1n dX12_times_83 ?_
              refine V_ll3n dX12_times_84 ?_
              refine V_lmul dX12_times_85 ?_
              exact V_lreturn rfl ⟨by simp [*], rfl, by first | (simp [*, bz]; done) | simp [*, bz, over], rfl⟩ dX12_times_86
          · have ho : over (a * b) = true := (mul_over b3 b9).mp (by (repeat' split) <;> omega)
            refine V_iconst dX12_times_44 ?_
            refine V_goto (tgt := 49) dX12_times_45 rfl ?_
            refine V_is5 dX12_times_49 (by decide) rfl ?_
            refine V_al0n dX12_times_51 ?_
            refine V_al0n dX12_times_52 ?_
            refine V_getZ kk104 (by decide) fl_X12_386 he dX12_times_53 ?_
            refine V_bf (tgt := 64) dX12_times_56 rfl (fun b56 => ?_) (fun b56 => ?_)
            · refine V_iconst dX12_times_64 ?_
              refine V_goto (tgt := 69) dX12_times_65 rfl ?_
              refine V_putZ kk104 (by decide) fl_X12_386 rfl (by first | exact Or.inl rfl | exact Or.inr rfl | (unfold bz; split <;> simp)) dX12_times_69 ?_
              refine V_al0n dX12_times_72 ?_
              refine V_getZ kk104 (by decide) fl_X12_386 u2_s dX12_times_73 ?_
              refine V_if_eq (tgt := 83) dX12_times_76 rfl (by unfold ri; decide) (fun b76 => by exfalso; revert b76; decide) (fun b76 => ?_)
              refine V_lconst (a := 0) dX12_times_79 rfl ?_
              refine V_goto (tgt := 86) dX12_times_80 rfl ?_
              exact V_lreturn rfl ⟨by simp [*], rfl, by first | (simp [*, bz]; done) | simp [*, bz, over], rfl⟩ dX12_times_86
            · refine V_il5 dX12_times_59 ?_
              refine V_if_eq (tgt := 68) dX12_times_61 rfl (by unfold ri; decide) (fun b61 => by exfalso; revert b61; decide) (fun b61 => ?_)
              refine V_iconst dX12_times_64 ?_
              refine V_goto (tgt := 69) dX12_times_65 rfl ?_
              refine V_putZ kk104 (by decide) fl_X12_386 rfl (by first | exact Or.inl rfl | exact Or.inr rfl | (unfold bz; split <;> simp)) dX12_times_69 ?_
              refine V_al0n dX12_times_72 ?_
              refine V_getZ kk104 (by decide) fl_X12_386 u2_s dX12_times_73 ?_
              refine V_if_eq (tgt := 83) dX12_times_76 rfl (by unfold ri; decide) (fun b76 => by exfalso; revert b76; decide) (fun b76 => ?_)
              refine V_lconst (a := 0) dX12_times_79 rfl ?_
              refine V_goto (tgt := 86) dX12_times_80 rfl ?_
              exact V_lreturn rfl ⟨by simp [*], rfl, by first | (simp [*, bz]; done) | simp [*, bz, over], rfl⟩ dX12_times_86
      · refine V_ll3n dX12_times_18 ?_
        refine V_lneg dX12_times_19 ?_
        refine V_goto (tgt := 24) dX12_times_20 rfl ?_
        refine V_ldc2_w (a := 1000000000000) kl_X12_389 rfl dX12_times_24 ?_
        refine V_ll1n dX12_times_27 ?_
        refine V_lconst (a := 0) dX12_times_28 rfl ?_
        refine V_lif_ge (tgt := 38) dX12_times_29 dX12_times_30 rfl (by first | assumption | (unfold rl at *; omega)) (by first | assumption | (unfold rl at *; omega)) (fun b30 => ?_) (fun b30 => ?_)
        · refine V_ll1n dX12_times_38 ?_
          refine V_ldiv dX12_times_39 (lz_ne (by unfold rl; omega) (by omega)) (lz_div (by omega) (by omega) (by unfold rl; omega) (by unfold rl; omega)) ?_
          refine V_lif_le (tgt := 48) dX12_times_40 dX12_times_41 rfl (by unfold rl; omega) (rl_div (by omega)) (fun b41 => ?_) (fun b41 => ?_)
          · have ho : over (a * b) = false := Bool.eq_false_iff.mpr (fun h => absurd ((mul_over b3 b9).mpr h) (by (repeat' split) <;> omega))
            refine V_iconst dX12_times_48 ?_
            refine V_is5 dX12_times_49 (by decide) rfl ?_
            refine V_al0n dX12_times_51 ?_
            refine V_al0n dX12_times_52 ?_
            refine V_getZ kk104 (by decide) fl_X12_386 he dX12_times_53 ?_
            refine V_bf (tgt := 64) dX12_times_56 rfl (fun b56 => ?_) (fun b56 => ?_)
            · refine V_iconst dX12_times_64 ?_
              refine V_goto (tgt := 69) dX12_times_65 rfl ?_
              refine V_putZ kk104 (by decide) fl_X12_386 rfl (by first | exact Or.inl rfl | exact Or.inr rfl | (unfold bz; split <;> simp)) dX12_times_69 ?_
              refine V_al0n dX12_times_72 ?_
              refine V_getZ kk104 (by decide) fl_X12_386 u2_s dX12_times_73 ?_
              refine V_if_eq (tgt := 83) dX12_times_76 rfl (by unfold ri; decide) (fun b76 => by exfalso; revert b76; decide) (fun b76 => ?_)
              refine V_lconst (a := 0) dX12_times_79 rfl ?_
              refine V_goto (tgt := 86) dX12_times_80 rfl ?_
              exact V_lreturn rfl ⟨by simp [*], rfl, by first | (simp [*, bz]; done) | simp [*, bz, over], rfl⟩ dX12_times_86
            · refine V_il5 dX12_times_59 ?_
              refine V_if_eq (tgt := 68) dX12_times_61 rfl (by unfold ri; decide) (fun b61 => ?_) (fun b61 => by exfalso; revert b61; decide)
              refine V_iconst dX12_times_68 ?_
              refine V_putZ kk104 (by decide) fl_X12_386 rfl (by first | exact Or.inl rfl | exact Or.inr rfl | (unfold bz; split <;> simp)) dX12_times_69 ?_
              refine V_al0n dX12_times_72 ?_
              refine V_getZ kk104 (by decide) fl_X12_386 u2_s dX12_times_73 ?_
              refine V_if_eq (tgt := 83) dX12_times_76 rfl (by unfold ri; decide) (fun b76 => ?_) (fun b76 => by exfalso; revert b76; decide)
              refine V_ll1n dX12_times_83 ?_
              refine V_ll3n dX12_times_84 ?_
              refine V_lmul dX12_times_85 ?_
              exact V_lreturn rfl ⟨by simp [*], rfl, by first | (simp [*, bz]; done) | simp [*, bz, over], rfl⟩ dX12_times_86
          · have ho : over (a * b) = true := (mul_over b3 b9).mp (by (repeat' split) <;> omega)
            refine V_iconst dX12_times_44 ?_
            refine V_goto (tgt := 49) dX12_times_45 rfl ?_
            refine V_is5 dX12_times_49 (by decide) rfl ?_
            refine V_al0n dX12_times_51 ?_
            refine V_al0n dX12_times_52 ?_
            refine V_getZ kk104 (by decide) fl_X12_386 he dX12_times_53 ?_
            refine V_bf (tgt := 64) dX12_times_56 rfl (fun b56 => ?_) (fun b56 => ?_)
            · refine V_iconst dX12_times_64 ?_
              refine V_goto (tgt := 69) dX12_times_65 rfl ?_
              refine V_putZ kk104 (by decide) fl_X12_386 rfl (by first | exact Or.inl rfl | exact Or.inr rfl | (unfold bz; split <;> simp)) dX12_times_69 ?_
              refine V_al0n dX12_times_72 ?_
              refine V_getZ kk104 (by decide) fl_X12_386 u2_s dX12_times_73 ?_
              refine V_if_eq (tgt := 83) dX12_times_76 rfl (by unfold ri; decide) (fun b76 => by exfalso; revert b76; decide) (fun b76 => ?_)
              refine V_lconst (a := 0) dX12_times_79 rfl ?_
              refine V_goto (tgt := 86) dX12_times_80 rfl ?_
              exact V_lreturn rfl ⟨by simp [*], rfl, by first | (simp [*, bz]; done) | simp [*, bz, over], rfl⟩ dX12_times_86
            · refine V_il5 dX12_times_59 ?_
              refine V_if_eq (tgt := 68) dX12_times_61 rfl (by unfold ri; decide) (fun b61 => by exfalso; revert b61; decide) (fun b61 => ?_)
              refine V_iconst dX12_times_64 ?_
              refine V_goto (tgt := 69) dX12_times_65 rfl ?_
              refine V_putZ kk104 (by decide) fl_X12_386 rfl (by first | exact Or.inl rfl | exact Or.inr rfl | (unfold bz; split <;> simp)) dX12_times_69 ?_
              refine V_al0n dX12_times_72 ?_
              refine V_getZ kk104 (by decide) fl_X12_386 u2_s dX12_times_73 ?_
              refine V_if_eq (tgt := 83) dX12_times_76 rfl (by unfold ri; decide) (fun b76 => by exfalso; revert b76; decide) (fun b76 => ?_)
              refine V_lconst (a := 0) dX12_times_79 rfl ?_
              refine V_goto (tgt := 86) dX12_times_80 rfl ?_
              exact V_lreturn rfl ⟨by simp [*], rfl, by first | (simp [*, bz]; done) | simp [*, bz, over], rfl⟩ dX12_times_86
        · refine V_ll1n dX12_times_33 ?_
          refine V_lneg dX12_times_34 ?_
          refine V_goto (tgt := 39) dX12_times_35 rfl ?_
          refine V_ldiv dX12_times_39 (lz_ne (by unfold rl; omega) (by omega)) (lz_div (by omega) (by omega) (by unfold rl; omega) (by unfold rl; omega)) ?_
          refine V_lif_le (tgt := 48) dX12_times_40 dX12_times_41 rfl (by unfold rl; omega) (rl_div (by omega)) (fun b41 => ?_) (fun b41 => ?_)
          · have ho : over (a * b) = false := Bool.eq_false_iff.mpr (fun h => absurd ((mul_over b3 b9).mpr h) (by (repeat' split) <;> omega))
            refine V_iconst dX12_times_48 ?_
            refine V_is5 dX12_times_49 (by decide) rfl ?_
            refine V_al0n dX12_times_51 ?_
            refine V_al0n dX12_times_52 ?_
            refine V_getZ kk104 (by decide) fl_X12_386 he dX12_times_53 ?_
            refine V_bf (tgt := 64) dX12_times_56 rfl (fun b56 => ?_) (fun b56 => ?_)
            · refine V_iconst dX12_times_64 ?_
              refine V_goto (tgt := 69) dX12_times_65 rfl ?_
              refine V_putZ kk104 (by decide) fl_X12_386 rfl (by first | exact Or.inl rfl | exact Or.inr rfl | (unfold bz; split <;> simp)) dX12_times_69 ?_
              refine V_al0n dX12_times_72 ?_
              refine V_getZ kk104 (by decide) fl_X12_386 u2_s dX12_times_73 ?_
              refine V_if_eq (tgt := 83) dX12_times_76 rfl (by unfold ri; decide) (fun b76 => by exfalso; revert b76; decide) (fun b76 => ?_)
              refine V_lconst (a := 0) dX12_times_79 rfl ?_
              refine V_goto (tgt := 86) dX12_times_80 rfl ?_
              exact V_lreturn rfl ⟨by simp [*], rfl, by first | (simp [*, bz]; done) | simp [*, bz, over], rfl⟩ dX12_times_86
            · refine V_il5 dX12_times_59 ?_
              refine V_if_eq (tgt := 68) dX12_times_61 rfl (by unfold ri; decide) (fun b61 => ?_) (fun b61 => by exfalso; revert b61; decide)
              refine V_iconst dX12_times_68 ?_
              refine V_putZ kk104 (by decide) fl_X12_386 rfl (by first | exact Or.inl rfl | exact Or.inr rfl | (unfold bz; split <;> simp)) dX12_times_69 ?_
              refine V_al0n dX12_times_72 ?_
              refine V_getZ kk104 (by decide) fl_X12_386 u2_s dX12_times_73 ?_
              refine V_if_eq (tgt := 83) dX12_times_76 rfl (by unfold ri; decide) (fun b76 => ?_) (fun b76 => by exfalso; revert b76; decide)
              refine V_ll1n dX12_times_83 ?_
              refine V_ll3n dX12_times_84 ?_
              refine V_lmul dX12_times_85 ?_
              exact V_lreturn rfl ⟨by simp [*], rfl, by first | (simp [*, bz]; done) | simp [*, bz, over], rfl⟩ dX12_times_86
          · have ho : over (a * b) = true := (mul_over b3 b9).mp (by (repeat' split) <;> omega)
            refine V_iconst dX12_times_44 ?_
            refine V_goto (tgt := 49) dX12_times_45 rfl ?_
            refine V_is5 dX12_times_49 (by decide) rfl ?_
            refine V_al0n dX12_times_51 ?_
            refine V_al0n dX12_times_52 ?_
            refine V_getZ kk104 (by decide) fl_X12_386 he dX12_times_53 ?_
            refine V_bf (tgt := 64) dX12_times_56 rfl (fun b56 => ?_) (fun b56 => ?_)
            · refine V_iconst dX12_times_64 ?_
              refine V_goto (tgt := 69) dX12_times_65 rfl ?_
              refine V_putZ kk104 (by decide) fl_X12_386 rfl (by first | exact Or.inl rfl | exact Or.inr rfl | (unfold bz; split <;> simp)) dX12_times_69 ?_
              refine V_al0n dX12_times_72 ?_
              refine V_getZ kk104 (by decide) fl_X12_386 u2_s dX12_times_73 ?_
              refine V_if_eq (tgt := 83) dX12_times_76 rfl (by unfold ri; decide) (fun b76 => by exfalso; revert b76; decide) (fun b76 => ?_)
              refine V_lconst (a := 0) dX12_times_79 rfl ?_
              refine V_goto (tgt := 86) dX12_times_80 rfl ?_
              exact V_lreturn rfl ⟨by simp [*], rfl, by first | (simp [*, bz]; done) | simp [*, bz, over], rfl⟩ dX12_times_86
            · refine V_il5 dX12_times_59 ?_
              refine V_if_eq (tgt := 68) dX12_times_61 rfl (by unfold ri; decide) (fun b61 => by exfalso; revert b61; decide) (fun b61 => ?_)
              refine V_iconst dX12_times_64 ?_
              refine V_goto (tgt := 69) dX12_times_65 rfl ?_
              refine V_putZ kk104 (by decide) fl_X12_386 rfl (by first | exact Or.inl rfl | exact Or.inr rfl | (unfold bz; split <;> simp)) dX12_times_69 ?_
              refine V_al0n dX12_times_72 ?_
              refine V_getZ kk104 (by decide) fl_X12_386 u2_s dX12_times_73 ?_
              refine V_if_eq (tgt := 83) dX12_times_76 rfl (by unfold ri; decide) (fun b76 => by exfalso; revert b76; decide) (fun b76 => ?_)
              refine V_lconst (a := 0) dX12_times_79 rfl ?_
              refine V_goto (tgt := 86) dX12_times_80 rfl ?_
              exact V_lreturn rfl ⟨by simp [*], rfl, by first | (simp [*, bz]; done) | simp [*, bz, over], rfl⟩ dX12_times_86
theorem u2_same {α : Type} {f : Nat → Nat → α} {a k : Nat} {x : α} (h : f a k = x) : u2 f a k x = f := by
  funext b j
  unfold u2
  split
  · rename_i hc
    rw [hc.1, hc.2, h]
  · rfl
def bin (o a b : Int) : Option Int :=
  if o = 3 then some (bz (decide (a ≠ 0 ∧ b ≠ 0))) else if o = 4 then some (bz (decide (a ≠ 0 ∨ b ≠ 0))) else if o = 11 then (if over (a + b) = true then none else some (a + b))
  else if o = 12 then (if over (a - b) = true then none else some (a - b)) else if o = 13 then (if over (a * b) = true then none else some (a * b)) else if o = 14 then (if b = 0 then none else some (a.tdiv b)) else some (bz (cmpb o a b))
/-- what the knot i is worth, by what the names and the knots ahead of it are worth -/
def kv (T : TT) (nm val : Nat → Int) (i : Nat) : Option Int :=
  if T 130 i = 0 then some (T 131 i) else if T 130 i = 1 then some (nm (T 131 i).toNat) else if T 130 i = 2 then some (bz (decide (val (T 131 i).toNat = 0))) else bin (T 130 i) (val (T 131 i).toNat) (val (T 132 i).toNat)
def inB (x : Int) : Prop := -1000000000000 ≤ x ∧ x ≤ 1000000000000
theorem tdiv_inB {a b : Int} (ha : inB a) : inB (a.tdiv b) := by
  have h2 : (a.tdiv b).natAbs ≤ a.natAbs := by rw [Int.natAbs_tdiv]; exact Nat.div_le_self _ _
  unfold inB at *
  omega
theorem bz_inB (b : Bool) : inB (bz b) := by cases b <;> (unfold inB bz; simp)
theorem if_inB {c : Bool} {x : Int} (h : c = false → over x = false) : inB (if c = true then 0 else x) := by
  cases c
  · have := h rfl
    unfold over at this
    unfold inB
    simp at this ⊢
    omega
  · unfold inB
    simp
/-- a knot of a told law: its kind, what it names, what it is made of -/
def KN (T : TT) (lo i : Nat) : Prop := lo ≤ i ∧ i < 64 ∧ (0 ≤ T 130 i ∧ T 130 i ≤ 14) ∧ (T 130 i = 0 → 0 ≤ T 131 i ∧ T 131 i ≤ 9999) ∧ (T 130 i = 1 → 0 ≤ T 131 i ∧ T 131 i ≤ 7) ∧ (2 ≤ T 130 i → (lo : Int) ≤ T 131 i ∧ T 131 i < i) ∧ (3 ≤ T 130 i → (lo : Int) ≤ T 132 i ∧ T 132 i < i)
theorem c_valueOf {T : TT} {ρ : RT} {f : IT} {g : JT} (hρ : Fx ρ) (hT : MT T f) {lo i : Nat} (hk : KN T lo i) {e : Bool} (he : f 104 66 = bz e) {nm val : Nat → Int} (hn : ∀ k, k < 8 → g 135 k = nm k ∧ inB (nm k)) (hv : ∀ j, lo ≤ j → j < i → g 136 j = val j ∧ inB (val j)) :
    C_X12_valueOf [.ref 104, .int (iz (i : Int))] ρ f g (fun r ρ' f' g' => ∃ (e' : Bool) (v : Int), r = some (.long (lz v)) ∧ inB v ∧ ρ' = ρ ∧ g' = g ∧ f' = u2 f 104 66 (bz e') ∧ (e = true → e' = true) ∧ (e = false → kv T nm val i = if e' = true then none else some v)) := by
  obtain ⟨h0, h64, ho, hk0, hk1, hk2, hk3⟩ := hk
  have fo : f 130 i = T 130 i := hT.at rfl h64
  have fp : f 131 i = T 131 i := hT.at rfl h64
  have fq : f 132 i = T 132 i := hT.at rfl h64
  have uf := u2_same he
  have hB : ∀ x, inB x → rl x := fun x h => by unfold inB at h; unfold rl; omega
  refine Ct.ofV (by decide) rfl (Nat.le_of_ble_eq_true rfl) ?_
  refine V_al0n dX12_valueOf_0 ?_
  refine V_getR kk104 (by decide) fl_X12_90 (fx_104_53 hρ) dX12_valueOf_1 ?_
  refine V_il1n dX12_valueOf_4 ?_
  refine V_iald (k := i) kk130 (by decide) (by first | rfl | omega) (by omega) (by first | decide | assumption | omega) fo dX12_valueOf_5 ?_
  refine V_if_ne (tgt := 17) dX12_valueOf_6 rfl (by first | assumption | (unfold ri at *; omega)) (fun b6 => ?_) (fun b6 => ?_)
  · refine V_al0n dX12_valueOf_17 ?_
    refine V_getR kk104 (by decide) fl_X12_90 (fx_104_53 hρ) dX12_valueOf_18 ?_
    refine V_il1n dX12_valueOf_21 ?_
    refine V_iald (k := i) kk130 (by decide) (by first | rfl | omega) (by omega) (by first | decide | assumption | omega) fo dX12_valueOf_22 ?_
    refine V_iconst dX12_valueOf_23 ?_
    refine V_icmp_ne (tgt := 39) dX12_valueOf_24 rfl (by first | assumption | (unfold ri at *; omega)) (by first | assumption | (unfold ri at *; omega)) (fun b24 => ?_) (fun b24 => ?_)
    · refine V_al0n dX12_valueOf_39 ?_
      refine V_getR kk104 (by decide) fl_X12_109 (fx_104_65 hρ) dX12_valueOf_40 ?_
      refine V_al0n dX12_valueOf_43 ?_
      refine V_getR kk104 (by decide) fl_X12_93 (fx_104_54 hρ) dX12_valueOf_44 ?_
      refine V_il1n dX12_valueOf_47 ?_
      refine V_iald (k := i) kk131 (by decide) (by first | rfl | omega) (by omega) (by first | decide | assumption | omega) fp dX12_valueOf_48 ?_
      refine V_lald (k := (T 131 i).toNat) kk136 (by decide) (by first | rfl | omega) (by omega) (by first | decide | assumption | omega) (hv (T 131 i).toNat (by omega) (by omega)).1 dX12_valueOf_49 ?_
      have ba := (hv (T 131 i).toNat (by omega) (by omega)).2
      generalize hva : val (T 131 i).toNat = va at *
      have rla := hB va ba
      refine V_ls2n dX12_valueOf_50 (by decide) rfl ?_
      refine V_al0n dX12_valueOf_51 ?_
      refine V_getR kk104 (by decide) fl_X12_90 (fx_104_53 hρ) dX12_valueOf_52 ?_
      refine V_il1n dX12_valueOf_55 ?_
      refine V_iald (k := i) kk130 (by decide) (by first | rfl | omega) (by omega) (by first | decide | assumption | omega) fo dX12_valueOf_56 ?_
      refine V_iconst dX12_valueOf_57 ?_
      refine V_icmp_ne (tgt := 73) dX12_valueOf_58 rfl (by first | assumption | (unfold ri at *; omega)) (by first | assumption | (unfold ri at *; omega)) (fun b58 => ?_) (fun b58 => ?_)
      · refine V_al0n dX12_valueOf_73 ?_
        refine V_getR kk104 (by decide) fl_X12_109 (fx_104_65 hρ) dX12_valueOf_74 ?_
        refine V_al0n dX12_valueOf_77 ?_
        refine V_getR kk104 (by decide) fl_X12_96 (fx_104_55 hρ) dX12_valueOf_78 ?_
        refine V_il1n dX12_valueOf_81 ?_
        refine V_iald (k := i) kk132 (by decide) (by first | rfl | omega) (by omega) (by first | decide | assumption | omega) fq dX12_valueOf_82 ?_
        refine V_lald (k := (T 132 i).toNat) kk136 (by decide) (by first | rfl | omega) (by omega) (by first | decide | assumption | omega) (hv (T 132 i).toNat (by omega) (by omega)).1 dX12_valueOf_83 ?_
        have bb := (hv (T 132 i).toNat (by omega) (by omega)).2
        generalize hvb : val (T 132 i).toNat = vb at *
        have rlb := hB vb bb
        have i1 := ba
        have i2 := bb
        unfold inB at i1 i2
        refine V_ls4 dX12_valueOf_84 (by decide) rfl ?_
        refine V_al0n dX12_valueOf_86 ?_
        refine V_getR kk104 (by decide) fl_X12_90 (fx_104_53 hρ) dX12_valueOf_87 ?_
        refine V_il1n dX12_valueOf_90 ?_
        refine V_iald (k := i) kk130 (by decide) (by first | rfl | omega) (by omega) (by first | decide | assumption | omega) fo dX12_valueOf_91 ?_
        rcases (show T 130 i = 3 ∨ T 130 i = 4 ∨ T 130 i = 5 ∨ T 130 i = 6 ∨ T 130 i = 7 ∨ T 130 i = 8 ∨ T 130 i = 9 ∨ T 130 i = 10 ∨ T 130 i = 11 ∨ T 130 i = 12 ∨ T 130 i = 13 ∨ T 130 i = 14 by omega) with eo | eo | eo | eo | eo | eo | eo | eo | eo | eo | eo | eo
        · refine V_tabIn (tgt := 156) (i := 0) dX12_valueOf_92 (by first | rfl | omega) (by decide) (by first | decide | assumption | (unfold ri at *; omega)) rfl rfl ?_
          refine V_ll2n dX12_valueOf_156 ?_
          refine V_lconst (a := 0) dX12_valueOf_157 rfl ?_
          refine V_lif_eq (tgt := 173) dX12_valueOf_158 dX12_valueOf_159 rfl (by first | assumption | (unfold rl at *; omega)) (by first | assumption | (unfold rl at *; omega)) (fun b159 => ?_) (fun b159 => ?_)
          · refine V_lconst (a := 0) dX12_valueOf_173 rfl ?_
            exact V_lreturn rfl ⟨e, _, rfl, (by unfold inB; omega), rfl, rfl, uf.symm, id, fun he9 => by simp [kv, bin, bz, *]⟩ dX12_valueOf_174
          · refine V_ll4 dX12_valueOf_162 ?_
            refine V_lconst (a := 0) dX12_valueOf_164 rfl ?_
            refine V_lif_eq (tgt := 173) dX12_valueOf_165 dX12_valueOf_166 rfl (by first | assumption | (unfold rl at *; omega)) (by first | assumption | (unfold rl at *; omega)) (fun b166 => ?_) (fun b166 => ?_)
            · refine V_lconst (a := 0) dX12_valueOf_173 rfl ?_
              exact V_lreturn rfl ⟨e, _, rfl, (by unfold inB; omega), rfl, rfl, uf.symm, id, fun he9 => by simp [kv, bin, bz, *]⟩ dX12_valueOf_174
            · refine V_lconst (a := 1) dX12_valueOf_169 rfl ?_
              refine V_goto (tgt := 174) dX12_valueOf_170 rfl ?_
              exact V_lreturn rfl ⟨e, _, rfl, (by unfold inB; omega), rfl, rfl, uf.symm, id, fun he9 => by simp [kv, bin, bz, *]⟩ dX12_valueOf_174
        · refine V_tabIn (tgt := 175) (i := 1) dX12_valueOf_92 (by first | rfl | omega) (by decide) (by first | decide | assumption | (unfold ri at *; omega)) rfl rfl ?_
          refine V_ll2n dX12_valueOf_175 ?_
          refine V_lconst (a := 0) dX12_valueOf_176 rfl ?_
          refine V_lif_ne (tgt := 188) dX12_valueOf_177 dX12_valueOf_178 rfl (by first | assumption | (unfold rl at *; omega)) (by first | assumption | (unfold rl at *; omega)) (fun b178 => ?_) (fun b178 => ?_)
          · refine V_lconst (a := 1) dX12_valueOf_188 rfl ?_
            refine V_goto (tgt := 193) dX12_valueOf_189 rfl ?_
            exact V_lreturn rfl ⟨e, _, rfl, (by unfold inB; omega), rfl, rfl, uf.symm, id, fun he9 => by simp [kv, bin, bz, *]⟩ dX12_valueOf_193
          · refine V_ll4 dX12_valueOf_181 ?_
            refine V_lconst (a := 0) dX12_valueOf_183 rfl ?_
            refine V_lif_eq (tgt := 192) dX12_valueOf_184 dX12_valueOf_185 rfl (by first | assumption | (unfold rl at *; omega)) (by first | assumption | (unfold rl at *; omega)) (fun b185 => ?_) (fun b185 => ?_)
            · refine V_lconst (a := 0) dX12_valueOf_192 rfl ?_
              exact V_lreturn rfl ⟨e, _, rfl, (by unfold inB; omega), rfl, rfl, uf.symm, id, fun he9 => by simp [kv, bin, bz, *]⟩ dX12_valueOf_193
            · refine V_lconst (a := 1) dX12_valueOf_188 rfl ?_
              refine V_goto (tgt := 193) dX12_valueOf_189 rfl ?_
              exact V_lreturn rfl ⟨e, _, rfl, (by unfold inB; omega), rfl, rfl, uf.symm, id, fun he9 => by simp [kv, bin, bz, *]⟩ dX12_valueOf_193
        · refine V_tabIn (tgt := 259) (i := 2) dX12_valueOf_92 (by first | rfl | omega) (by decide) (by first | decide | assumption | (unfold ri at *; omega)) rfl rfl ?_
          refine V_al0n dX12_valueOf_259 ?_
          refine V_getR kk104 (by decide) fl_X12_90 (fx_104_53 hρ) dX12_valueOf_260 ?_
          refine V_il1n dX12_valueOf_263 ?_
          refine V_iald (k := i) kk130 (by decide) (by first | rfl | omega) (by omega) (by first | decide | assumption | omega) fo dX12_valueOf_264 ?_
          refine V_ll2n dX12_valueOf_265 ?_
          refine V_ll4 dX12_valueOf_266 ?_
          refine V_callS (as := [_, _, _]) ml_X12_401 sm_X12_compares dX12_valueOf_268 rfl rfl (by decide) (by decide) (Nat.le_of_ble_eq_true rfl) (by decide) (by decide) rfl (c_compares (by omega) rla rlb) ?_
          refine pq4 ?_
          refine V_bt (tgt := 278) dX12_valueOf_271 rfl (fun b271 => ?_) (fun b271 => ?_)
          · rw [eo] at b271
            refine V_lconst (a := 0) dX12_valueOf_278 rfl ?_
            exact V_lreturn rfl ⟨e, _, rfl, (by unfold inB; omega), rfl, rfl, uf.symm, id, fun he9 => by simp [kv, bin, bz, *]⟩ dX12_valueOf_279
          · rw [eo] at b271
            refine V_lconst (a := 1) dX12_valueOf_274 rfl ?_
            refine V_goto (tgt := 279) dX12_valueOf_275 rfl ?_
            exact V_lreturn rfl ⟨e, _, rfl, (by unfold inB; omega), rfl, rfl, uf.symm, id, fun he9 => by simp [kv, bin, bz, *]⟩ dX12_valueOf_279
        · refine V_tabIn (tgt := 259) (i := 3) dX12_valueOf_92 (by first | rfl | omega) (by decide) (by first | decide | assumption | (unfold ri at *; omega)) rfl rfl ?_
          refine V_al0n dX12_valueOf_259 ?_
          refine V_getR kk104 (by decide) fl_X12_90 (fx_104_53 hρ) dX12_valueOf_260 ?_
          refine V_il1n dX12_valueOf_263 ?_
          refine V_iald (k := i) kk130 (by decide) (by first | rfl | omega) (by omega) (by first | decide | assumption | omega) fo dX12_valueOf_264 ?_
          refine V_ll2n dX12_valueOf_265 ?_
          refine V_ll4 dX12_valueOf_266 ?_
          refine V_callS (as := [_, _, _]) ml_X12_401 sm_X12_compares dX12_valueOf_268 rfl rfl (by decide) (by decide) (Nat.le_of_ble_eq_true rfl) (by decide) (by decide) rfl (c_compares (by omega) rla rlb) ?_
          refine pq4 ?_
          refine V_bt (tgt := 278) dX12_valueOf_271 rfl (fun b271 => ?_) (fun b271 => ?_)
          · rw [eo] at b271
            refine V_lconst (a := 0) dX12_valueOf_278 rfl ?_
            exact V_lreturn rfl ⟨e, _, rfl, (by unfold inB; omega), rfl, rfl, uf.symm, id, fun he9 => by simp [kv, bin, bz, *]⟩ dX12_valueOf_279
          · rw [eo] at b271
            refine V_lconst (a := 1) dX12_valueOf_274 rfl ?_
            refine V_goto (tgt := 279) dX12_valueOf_275 rfl ?_
            exact V_lreturn rfl ⟨e, _, rfl, (by unfold inB; omega), rfl, rfl, uf.symm, id, fun he9 => by simp [kv, bin, bz, *]⟩ dX12_valueOf_279
        · refine V_tabIn (tgt := 259) (i := 4) dX12_valueOf_92 (by first | rfl | omega) (by decide) (by first | decide | assumption | (unfold ri at *; omega)) rfl rfl ?_
          refine V_al0n dX12_valueOf_259 ?_
          refine V_getR kk104 (by decide) fl_X12_90 (fx_104_53 hρ) dX12_valueOf_260 ?_
          refine V_il1n dX12_valueOf_263 ?_
          refine V_iald (k := i) kk130 (by decide) (by first | rfl | omega) (by omega) (by first | decide | assumption | omega) fo dX12_valueOf_264 ?_
          refine V_ll2n dX12_valueOf_265 ?_
          refine V_ll4 dX12_valueOf_266 ?_
          refine V_callS (as := [_, _, _]) ml_X12_401 sm_X12_compares dX12_valueOf_268 rfl rfl (by decide) (by decide) (Nat.le_of_ble_eq_true rfl) (by decide) (by decide) rfl (c_compares (by omega) rla rlb) ?_
          refine pq4 ?_
          refine V_bt (tgt := 278) dX12_valueOf_271 rfl (fun b271 => ?_) (fun b271 => ?_)
          · rw [eo] at b271
            refine V_lconst (a := 0) dX12_valueOf_278 rfl ?_
            exact V_lreturn rfl ⟨e, _, rfl, (by unfold inB; omega), rfl, rfl, uf.symm, id, fun he9 => by simp [kv, bin, bz, *]⟩ dX12_valueOf_279
          · rw [eo] at b271
            refine V_lconst (a := 1) dX12_valueOf_274 rfl ?_
            refine V_goto (tgt := 279) dX12_valueOf_275 rfl ?_
            exact V_lreturn rfl ⟨e, _, rfl, (by unfold inB; omega), rfl, rfl, uf.symm, id, fun he9 => by simp [kv, bin, bz, *]⟩ dX12_valueOf_279
        · refine V_tabIn (tgt := 259) (i := 5) dX12_valueOf_92 (by first | rfl | omega) (by decide) (by first | decide | assumption | (unfold ri at *; omega)) rfl rfl ?_
          refine V_al0n dX12_valueOf_259 ?_
          refine V_getR kk104 (by decide) fl_X12_90 (fx_104_53 hρ) dX12_valueOf_260 ?_
          refine V_il1n dX12_valueOf_263 ?_
          refine V_iald (k := i) kk130 (by decide) (by first | rfl | omega) (by omega) (by first | decide | assumption | omega) fo dX12_valueOf_264 ?_
          refine V_ll2n dX12_valueOf_265 ?_
          refine V_ll4 dX12_valueOf_266 ?_
          refine V_callS (as := [_, _, _]) ml_X12_401 sm_X12_compares dX12_valueOf_268 rfl rfl (by decide) (by decide) (Nat.le_of_ble_eq_true rfl) (by decide) (by decide) rfl (c_compares (by omega) rla rlb) ?_
          refine pq4 ?_
          refine V_bt (tgt := 278) dX12_valueOf_271 rfl (fun b271 => ?_) (fun b271 => ?_)
          · rw [eo] at b271
            refine V_lconst (a := 0) dX12_valueOf_278 rfl ?_
            exact V_lreturn rfl ⟨e, _, rfl, (by unfold inB; omega), rfl, rfl, uf.symm, id, fun he9 => by simp [kv, bin, bz, *]⟩ dX12_valueOf_279
          · rw [eo] at b271
            refine V_lconst (a := 1) dX12_valueOf_274 rfl ?_
            refine V_goto (tgt := 279) dX12_valueOf_275 rfl ?_
            exact V_lreturn rfl ⟨e, _, rfl, (by unfold inB; omega), rfl, rfl, uf.symm, id, fun he9 => by simp [kv, bin, bz, *]⟩ dX12_valueOf_279
        · refine V_tabIn (tgt := 259) (i := 6) dX12_valueOf_92 (by first | rfl | omega) (by decide) (by first | decide | assumption | (unfold ri at *; omega)) rfl rfl ?_
          refine V_al0n dX12_valueOf_259 ?_
          refine V_getR kk104 (by decide) fl_X12_90 (fx_104_53 hρ) dX12_valueOf_260 ?_
          refine V_il1n dX12_valueOf_263 ?_
          refine V_iald (k := i) kk130 (by decide) (by first | rfl | omega) (by omega) (by first | decide | assumption | omega) fo dX12_valueOf_264 ?_
          refine V_ll2n dX12_valueOf_265 ?_
          refine V_ll4 dX12_valueOf_266 ?_
          refine V_callS (as := [_, _, _]) ml_X12_401 sm_X12_compares dX12_valueOf_268 rfl rfl (by decide) (by decide) (Nat.le_of_ble_eq_true rfl) (by decide) (by decide) rfl (c_compares (by omega) rla rlb) ?_
          refine pq4 ?_
          refine V_bt (tgt := 278) dX12_valueOf_271 rfl (fun b271 => ?_) (fun b271 => ?_)
          · rw [eo] at b271
            refine V_lconst (a := 0) dX12_valueOf_278 rfl ?_
            exact V_lreturn rfl ⟨e, _, rfl, (by unfold inB; omega), rfl, rfl, uf.symm, id, fun he9 => by simp [kv, bin, bz, *]⟩ dX12_valueOf_279
          · rw [eo] at b271
            refine V_lconst (a := 1) dX12_valueOf_274 rfl ?_
            refine V_goto (tgt := 279) dX12_valueOf_275 rfl ?_
            exact V_lreturn rfl ⟨e, _, rfl, (by unfold inB; omega), rfl, rfl, uf.symm, id, fun he9 => by simp [kv, bin, bz, *]⟩ dX12_valueOf_279
        · refine V_tabIn (tgt := 259) (i := 7) dX12_valueOf_92 (by first | rfl | omega) (by decide) (by first | decide | assumption | (unfold ri at *; omega)) rfl rfl ?_
          refine V_al0n dX12_valueOf_259 ?_
          refine V_getR kk104 (by decide) fl_X12_90 (fx_104_53 hρ) dX12_valueOf_260 ?_
          refine V_il1n dX12_valueOf_263 ?_
          refine V_iald (k := i) kk130 (by decide) (by first | rfl | omega) (by omega) (by first | decide | assumption | omega) fo dX12_valueOf_264 ?_
          refine V_ll2n dX12_valueOf_265 ?_
          refine V_ll4 dX12_valueOf_266 ?_
          refine V_callS (as := [_, _, _]) ml_X12_401 sm_X12_compares dX12_valueOf_268 rfl rfl (by decide) (by decide) (Nat.le_of_ble_eq_true rfl) (by decide) (by decide) rfl (c_compares (by omega) rla rlb) ?_
          refine pq4 ?_
          refine V_bt (tgt := 278) dX12_valueOf_271 rfl (fun b271 => ?_) (fun b271 => ?_)
          · rw [eo] at b271
            refine V_lconst (a := 0) dX12_valueOf_278 rfl ?_
            exact V_lreturn rfl ⟨e, _, rfl, (by unfold inB; omega), rfl, rfl, uf.symm, id, fun he9 => by simp [kv, bin, bz, *]⟩ dX12_valueOf_279
          · rw [eo] at b271
            refine V_lconst (a := 1) dX12_valueOf_274 rfl ?_
            refine V_goto (tgt := 279) dX12_valueOf_275 rfl ?_
            exact V_lreturn rfl ⟨e, _, rfl, (by unfold inB; omega), rfl, rfl, uf.symm, id, fun he9 => by simp [kv, bin, bz, *]⟩ dX12_valueOf_279
        · refine V_tabIn (tgt := 194) (i := 8) dX12_valueOf_92 (by first | rfl | omega) (by decide) (by first | decide | assumption | (unfold ri at *; omega)) rfl rfl ?_
          refine V_al0n dX12_valueOf_194 ?_
          refine V_ll2n dX12_valueOf_195 ?_
          refine V_ll4 dX12_valueOf_196 ?_
          refine V_ladd dX12_valueOf_198 ?_
          refine V_callV (as := [_]) ml_X12_393 im_X12_bounded se_X12_bounded kk104 (by decide) (by decide) dX12_valueOf_199 rfl rfl (by decide) (by decide) (Nat.le_of_ble_eq_true rfl) (by decide) (by decide) rfl (c_bounded he (by unfold rl; omega)) ?_
          refine pq4 ?_
          exact V_lreturn rfl ⟨_, _, rfl, if_inB (fun h => by simp at h; exact h.2), rfl, rfl, rfl, fun h => by simp [h], fun he9 => by simp [kv, bin, *]; split <;> simp [*]⟩ dX12_valueOf_202
        · refine V_tabIn (tgt := 203) (i := 9) dX12_valueOf_92 (by first | rfl | omega) (by decide) (by first | decide | assumption | (unfold ri at *; omega)) rfl rfl ?_
          refine V_al0n dX12_valueOf_203 ?_
          refine V_ll2n dX12_valueOf_204 ?_
          refine V_ll4 dX12_valueOf_205 ?_
          refine V_lsub dX12_valueOf_207 ?_
          refine V_callV (as := [_]) ml_X12_393 im_X12_bounded se_X12_bounded kk104 (by decide) (by decide) dX12_valueOf_208 rfl rfl (by decide) (by decide) (Nat.le_of_ble_eq_true rfl) (by decide) (by decide) rfl (c_bounded he (by unfold rl; omega)) ?_
          refine pq4 ?_
          exact V_lreturn rfl ⟨_, _, rfl, if_inB (fun h => by simp at h; exact h.2), rfl, rfl, rfl, fun h => by simp [h], fun he9 => by simp [kv, bin, *]; split <;> simp [*]⟩ dX12_valueOf_211
        · refine V_tabIn (tgt := 212) (i := 10) dX12_valueOf_92 (by first | rfl | omega) (by decide) (by first | decide | assumption | (unfold ri at *; omega)) rfl rfl ?_
          refine V_al0n dX12_valueOf_212 ?_
          refine V_ll2n dX12_valueOf_213 ?_
          refine V_ll4 dX12_valueOf_214 ?_
          refine V_callV (as := [_, _]) ml_X12_397 im_X12_times se_X12_times kk104 (by decide) (by decide) dX12_valueOf_216 rfl rfl (by decide) (by decide) (Nat.le_of_ble_eq_true rfl) (by decide) (by decide) rfl (c_times he i1 i2) ?_
          refine pq4 ?_
          exact V_lreturn rfl ⟨_, _, rfl, if_inB (fun h => by simp at h; exact h.2), rfl, rfl, rfl, fun h => by simp [h], fun he9 => by simp [kv, bin, *]; split <;> simp [*]⟩ dX12_valueOf_219
        · refine V_tabIn (tgt := 220) (i := 11) dX12_valueOf_92 (by first | rfl | omega) (by decide) (by first | decide | assumption | (unfold ri at *; omega)) rfl rfl ?_
          refine V_al0n dX12_valueOf_220 ?_
          refine V_al0n dX12_valueOf_221 ?_
          refine V_getZ kk104 (by decide) fl_X12_386 he dX12_valueOf_222 ?_
          refine V_bf (tgt := 235) dX12_valueOf_225 rfl (fun b225 => ?_) (fun b225 => ?_)
          · refine V_iconst dX12_valueOf_235 ?_
            refine V_goto (tgt := 240) dX12_valueOf_236 rfl ?_
            refine V_putZ kk104 (by decide) fl_X12_386 rfl (by first | exact Or.inl rfl | exact Or.inr rfl | (unfold bz; split <;> simp)) dX12_valueOf_240 ?_
            refine V_al0n dX12_valueOf_243 ?_
            refine V_getZ kk104 (by decide) fl_X12_386 u2_s dX12_valueOf_244 ?_
            refine V_if_eq (tgt := 254) dX12_valueOf_247 rfl (by unfold ri; decide) (fun b247 => by exfalso; revert b247; decide) (fun b247 => ?_)
            refine V_lconst (a := 0) dX12_valueOf_250 rfl ?_
            refine V_goto (tgt := 258) dX12_valueOf_251 rfl ?_
            exact V_lreturn rfl ⟨e || decide (vb = 0), _, rfl, (by first | exact tdiv_inB ba | (unfold inB; omega)), rfl, rfl, by simp [*, bz], fun h => by simp [h], fun he9 => by first | (simp [kv, bin, *]; done) | (rw [b225] at he9; cases he9)⟩ dX12_valueOf_258
          · refine V_ll4 dX12_valueOf_228 ?_
            refine V_lconst (a := 0) dX12_valueOf_230 rfl ?_
            refine V_lif_ne (tgt := 239) dX12_valueOf_231 dX12_valueOf_232 rfl (by first | assumption | (unfold rl at *; omega)) (by first | assumption | (unfold rl at *; omega)) (fun b232 => ?_) (fun b232 => ?_)
            · refine V_iconst dX12_valueOf_239 ?_
              refine V_putZ kk104 (by decide) fl_X12_386 rfl (by first | exact Or.inl rfl | exact Or.inr rfl | (unfold bz; split <;> simp)) dX12_valueOf_240 ?_
              refine V_al0n dX12_valueOf_243 ?_
              refine V_getZ kk104 (by decide) fl_X12_386 u2_s dX12_valueOf_244 ?_
              refine V_if_eq (tgt := 254) dX12_valueOf_247 rfl (by unfold ri; decide) (fun b247 => ?_) (fun b247 => by exfalso; revert b247; decide)
              refine V_ll2n dX12_valueOf_254 ?_
              refine V_ll4 dX12_valueOf_255 ?_
              refine V_ldiv dX12_valueOf_257 (lz_ne rlb (by omega)) (lz_tdiv (by omega) i1 i2) ?_
              exact V_lreturn rfl ⟨e || decide (vb = 0), _, rfl, (by first | exact tdiv_inB ba | (unfold inB; omega)), rfl, rfl, by simp [*, bz], fun h => by simp [h], fun he9 => by first | (simp [kv, bin, *]; done) | (rw [b225] at he9; cases he9)⟩ dX12_valueOf_258
            · refine V_iconst dX12_valueOf_235 ?_
              refine V_goto (tgt := 240) dX12_valueOf_236 rfl ?_
              refine V_putZ kk104 (by decide) fl_X12_386 rfl (by first | exact Or.inl rfl | exact Or.inr rfl | (unfold bz; split <;> simp)) dX12_valueOf_240 ?_
              refine V_al0n dX12_valueOf_243 ?_
              refine V_getZ kk104 (by decide) fl_X12_386 u2_s dX12_valueOf_244 ?_
              refine V_if_eq (tgt := 254) dX12_valueOf_247 rfl (by unfold ri; decide) (fun b247 => by exfalso; revert b247; decide) (fun b247 => ?_)
              refine V_lconst (a := 0) dX12_valueOf_250 rfl ?_
              refine V_goto (tgt := 258) dX12_valueOf_251 rfl ?_
              exact V_lreturn rfl ⟨e || decide (vb = 0), _, rfl, (by first | exact tdiv_inB ba | (unfold inB; omega)), rfl, rfl, by simp [*, bz], fun h => by simp [h], fun he9 => by first | (simp [kv, bin, *]; done) | (rw [b225] at he9; cases he9)⟩ dX12_valueOf_258
      · refine V_ll2n dX12_valueOf_61 ?_
        refine V_lconst (a := 0) dX12_valueOf_62 rfl ?_
        refine V_lif_ne (tgt := 71) dX12_valueOf_63 dX12_valueOf_64 rfl (by first | assumption | (unfold rl at *; omega)) (by first | assumption | (unfold rl at *; omega)) (fun b64 => ?_) (fun b64 => ?_)
        · refine V_lconst (a := 0) dX12_valueOf_71 rfl ?_
          exact V_lreturn rfl ⟨e, _, rfl, (by unfold inB; omega), rfl, rfl, uf.symm, id, fun he9 => by simp [kv, bz, *]⟩ dX12_valueOf_72
        · refine V_lconst (a := 1) dX12_valueOf_67 rfl ?_
          refine V_goto (tgt := 72) dX12_valueOf_68 rfl ?_
          exact V_lreturn rfl ⟨e, _, rfl, (by unfold inB; omega), rfl, rfl, uf.symm, id, fun he9 => by simp [kv, bz, *]⟩ dX12_valueOf_72
    · refine V_al0n dX12_valueOf_27 ?_
      refine V_getR kk104 (by decide) fl_X12_105 (fx_104_64 hρ) dX12_valueOf_28 ?_
      refine V_al0n dX12_valueOf_31 ?_
      refine V_getR kk104 (by decide) fl_X12_93 (fx_104_54 hρ) dX12_valueOf_32 ?_
      refine V_il1n dX12_valueOf_35 ?_
      refine V_iald (k := i) kk131 (by decide) (by first | rfl | omega) (by omega) (by first | decide | assumption | omega) fp dX12_valueOf_36 ?_
      refine V_lald (k := (T 131 i).toNat) kk135 (by decide) (by first | rfl | omega) (by omega) (by first | decide | assumption | omega) (hn (T 131 i).toNat (by omega)).1 dX12_valueOf_37 ?_
      exact V_lreturn rfl ⟨e, _, rfl, (hn (T 131 i).toNat (by omega)).2, rfl, rfl, uf.symm, id, fun he9 => by simp [kv, *]⟩ dX12_valueOf_38
  · refine V_al0n dX12_valueOf_9 ?_
    refine V_getR kk104 (by decide) fl_X12_93 (fx_104_54 hρ) dX12_valueOf_10 ?_
    refine V_il1n dX12_valueOf_13 ?_
    refine V_iald (k := i) kk131 (by decide) (by first | rfl | omega) (by omega) (by first | decide | assumption | omega) fp dX12_valueOf_14 ?_
    refine V_i2l dX12_valueOf_15 (by first | assumption | (unfold ri at *; omega)) ?_
    exact V_lreturn rfl ⟨e, _, rfl, (by unfold inB; omega), rfl, rfl, uf.symm, id, fun he9 => by simp [kv, *]⟩ dX12_valueOf_16

