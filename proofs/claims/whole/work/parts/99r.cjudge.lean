section CJUDGE
variable {T : TT} {b : Nat} {ρ : RT} {f : IT} {g : JT}
theorem tat4 (hk : TOK T) {m j : Nat} (hm : m < nJu T) (hj : j < 2) : tat T 4 (m : Int) (j : Int) = tcl T 4 m j := by
  have h := hk.ju
  have e : T 104 (12 + 4) = (nJu T : Int) := h.1
  unfold tat
  rw [if_pos ⟨⟨by omega, by rw [e]; omega⟩, by omega, by show (j : Int) < ((wdK 4 : Nat) : Int); have : wdK 4 = 2 := rfl; omega⟩]
  simp
theorem iz_andE (a c : Int) : ∃ w, iz a &&& iz c = iz w ∧ ri w ∧ (w = 0 ↔ U a &&& U c = 0) := by
  have hlt : U a &&& U c < 4294967296 := Nat.lt_of_le_of_lt Nat.and_le_left (U_lt a)
  generalize hn : U a &&& U c = n at *
  have key : ∀ w : Int, U w = n → iz a &&& iz c = iz w := fun w hw => by
    rw [iz_and, hn]
    exact (iz_of (by rw [iz_bv, hw])).symm
  by_cases h : n < 2147483648
  · exact ⟨(n : Int), key _ (by unfold U; omega), by unfold ri; omega, by omega⟩
  · exact ⟨(n : Int) - 4294967296, key _ (by unfold U; omega), by unfold ri; omega, by omega⟩
theorem hi_bits {n x : Nat} (hn : n ≤ 4) (hx : x < 4294967296) : x &&& (4294967296 - 2 ^ n) = 0 ↔ x < 2 ^ n := by
  have hp : 2 ^ n ≤ 16 := by
    have : (2 : Nat) ^ n ≤ 2 ^ 4 := Nat.pow_le_pow_right (by omega) hn
    omega
  have hp1 : 1 ≤ 2 ^ n := Nat.pow_pos (by omega)
  have tb : ∀ i, Nat.testBit (4294967296 - 2 ^ n) i = (decide (i < 32) && !decide (i < n)) := fun i => by
    have := Nat.testBit_two_pow_sub_succ (n := 32) (x := 2 ^ n - 1) (by omega) i
    rw [show 2 ^ n - 1 + 1 = 2 ^ n by omega] at this
    rw [show (4294967296 : Nat) = 2 ^ 32 from rfl, this, Nat.testBit_two_pow_sub_one]
  constructor
  · intro h
    by_cases c : x < 2 ^ n
    · exact c
    · obtain ⟨i, h1, h2⟩ := Nat.exists_ge_and_testBit_of_ge_two_pow (x := x) (n := n) (by omega)
      have h3 : Nat.testBit (x &&& (4294967296 - 2 ^ n)) i = false := by rw [h]; simp
      rw [Nat.testBit_and, h2, tb] at h3
      have h4 : i < 32 := by
        by_cases c2 : i < 32
        · exact c2
        · have : Nat.testBit x i = false := Nat.testBit_lt_two_pow (Nat.lt_of_lt_of_le hx (by rw [show (4294967296 : Nat) = 2 ^ 32 from rfl]; exact Nat.pow_le_pow_right (by omega) (by omega)))
          rw [this] at h2
          cases h2
      simp [h4] at h3
      omega
  · intro h
    apply Nat.eq_of_testBit_eq
    intro i
    rw [Nat.testBit_and, tb]
    by_cases c : i < n
    · simp [c]
    · have : Nat.testBit x i = false := Nat.testBit_lt_two_pow (Nat.lt_of_lt_of_le h (Nat.pow_le_pow_right (by omega) (by omega)))
      simp [this]
theorem all_bits {n : Nat} (hn : n ≤ 4) {a : Int} (ra : ri a) : U a &&& U (-1 - (2 ^ n - 1)) = 0 ↔ 0 ≤ a ∧ a < 2 ^ n := by
  have e : U (-1 - (2 ^ n - 1)) = 4294967296 - 2 ^ n := by
    rcases (show n = 0 ∨ n = 1 ∨ n = 2 ∨ n = 3 ∨ n = 4 by omega) with q | q | q | q | q <;> rw [q] <;> decide
  rw [e, hi_bits hn (U_lt a)]
  have hp : (2 : Int) ^ n = ((2 ^ n : Nat) : Int) := by simp
  have hp4 : (2 : Nat) ^ n ≤ 16 := by
    have : (2 : Nat) ^ n ≤ 2 ^ 4 := Nat.pow_le_pow_right (by omega) hn
    omega
  rw [hp]
  unfold ri at ra
  unfold U
  omega
theorem sayO_nn {s a : Int} (rs : ri s) (ha : 0 ≤ a ∧ a < 16) (h : U s &&& U (-1 - a) = 0) : 0 ≤ s := by
  by_cases c : 0 ≤ s
  · exact c
  · unfold ri at rs
    have h1 : Nat.testBit (U s) 31 = true := by
      have : U s / 2 ^ 31 % 2 = 1 := by unfold U; omega
      rw [Nat.testBit_eq_decide_div_mod_eq]
      simpa using this
    have h2 : Nat.testBit (U (-1 - a)) 31 = true := by
      have : U (-1 - a) / 2 ^ 31 % 2 = 1 := by unfold U; omega
      rw [Nat.testBit_eq_decide_div_mod_eq]
      simpa using this
    have h3 : Nat.testBit (U s &&& U (-1 - a)) 31 = false := by rw [h]; simp
    rw [Nat.testBit_and, h1, h2] at h3
    cases h3
theorem w_chance (hW : TW T b ρ) (hC : CT T b f) {o : Nat → Int} {cl : Nat} (hcl : cl < 2) (ho : ∀ j, j < nJu T → tat T 4 (j : Int) (cl : Int) = o j ∧ 0 ≤ o j ∧ o j ≤ 100) {asked say : Int} (ra : ri asked) (rs : ri say) {Q : QT} (hQ : Q (some (.long (lz (syS o asked say (nJu T))))) ρ f g) (j : Nat) (hj : j ≤ nJu T) :
    V_X11_chanceToSay Q 6 [.ref 0, .int (iz asked), .int (iz say), .int (iz (cl : Int)), .long (lz (syS o asked say j)), .null, .int (iz (j : Int)), .null] [] ρ f g := by
  have hk := hW.2.2.2.2.1
  have hρ := hW.1
  have hb := hW.2.1
  have h4 := hk.ju
  have e16 : T 104 (12 + 4) = (nJu T : Int) := h4.1
  by_cases e : j = nJu T
  · subst e
    refine V_il6 dX11_chanceToSay_6 ?_
    refine V_al0n dX11_chanceToSay_8 ?_
    refine V_getR kk0 (by decide) fl_X11_29 hW.2.2.1 dX11_chanceToSay_9 ?_
    refine V_iconst dX11_chanceToSay_12 ?_
    refine V_callV (as := [_]) ml_X11_271 im_X7_size se_X7_size (kb_0 hb) (by decide) (kl_0 hb) dX11_chanceToSay_13 rfl rfl (by decide) (by decide) (Nat.le_of_ble_eq_true rfl) (by decide) (by decide) rfl (c_size hρ hb hC (i := 4) (by omega)) ?_
    refine pq4 ?_
    refine V_icmp_ge (tgt := 73) dX11_chanceToSay_16 rfl (by unfold ri; omega) (by unfold ri; omega) (fun b16 => ?_) (fun b16 => ?_)
    · refine V_ll4 dX11_chanceToSay_73 ?_
      exact V_lreturn rfl hQ dX11_chanceToSay_75
    · exfalso; omega
  · have hx := w_chance hW hC hcl ho ra rs hQ (j + 1) (by omega)
    simp only [syS] at hx
    obtain ⟨o1, o2⟩ := ho j (by omega)
    have hat := c_at (f := f) (g := g) hρ hb hC hk (i := 4) (by omega) (k := (j : Int)) (j := (cl : Int)) (by unfold ri; omega) (by unfold ri; omega)
    rw [o1] at hat
    have ha1 : asked / 2 ^ j % 2 = 0 ∨ asked / 2 ^ j % 2 = 1 := by omega
    have hs1 : say / 2 ^ j % 2 = 0 ∨ say / 2 ^ j % 2 = 1 := by omega
    refine V_il6 dX11_chanceToSay_6 ?_
    refine V_al0n dX11_chanceToSay_8 ?_
    refine V_getR kk0 (by decide) fl_X11_29 hW.2.2.1 dX11_chanceToSay_9 ?_
    refine V_iconst dX11_chanceToSay_12 ?_
    refine V_callV (as := [_]) ml_X11_271 im_X7_size se_X7_size (kb_0 hb) (by decide) (kl_0 hb) dX11_chanceToSay_13 rfl rfl (by decide) (by decide) (Nat.le_of_ble_eq_true rfl) (by decide) (by decide) rfl (c_size hρ hb hC (i := 4) (by omega)) ?_
    refine pq4 ?_
    refine V_icmp_ge (tgt := 73) dX11_chanceToSay_16 rfl (by unfold ri; omega) (by unfold ri; omega) (fun b16 => ?_) (fun b16 => ?_)
    · exfalso; omega
    · refine V_al0n dX11_chanceToSay_19 ?_
      refine V_getR kk0 (by decide) fl_X11_29 hW.2.2.1 dX11_chanceToSay_20 ?_
      refine V_iconst dX11_chanceToSay_23 ?_
      refine V_il6 dX11_chanceToSay_24 ?_
      refine V_il3n dX11_chanceToSay_26 ?_
      refine V_callV (as := [_, _, _]) ml_X11_176 im_X7_at se_X7_at (kb_0 hb) (by decide) (kl_0 hb) dX11_chanceToSay_27 rfl rfl (by decide) (by decide) (Nat.le_of_ble_eq_true rfl) (by decide) (by decide) rfl (hat) ?_
      refine pq4 ?_
      refine V_is7 dX11_chanceToSay_30 (by decide) rfl ?_
      refine V_il1n dX11_chanceToSay_32 ?_
      refine V_il6 dX11_chanceToSay_33 ?_
      refine V_ishr dX11_chanceToSay_35 (iz_shr ra (by omega : j < 32)) ?_
      refine V_iconst dX11_chanceToSay_36 ?_
      refine V_iand dX11_chanceToSay_37 (iz_and1 _) ?_
      refine V_if_eq (tgt := 67) dX11_chanceToSay_38 rfl (by unfold ri; omega) (fun b38 => ?_) (fun b38 => ?_)
      · rw [if_neg (by omega)] at hx
        refine V_inc6 dX11_chanceToSay_67 (by decide) rfl ?_
        refine V_goto (tgt := 6) dX11_chanceToSay_70 rfl ?_
        exact V_weak (by repeat (first | exact wk_n | refine wk_c (Or.inr rfl) ?_ | refine wk_c (Or.inl rfl) ?_)) hx
      · rw [if_pos (by omega)] at hx
        refine V_ll4 dX11_chanceToSay_41 ?_
        refine V_il2n dX11_chanceToSay_43 ?_
        refine V_il6 dX11_chanceToSay_44 ?_
        refine V_ishr dX11_chanceToSay_46 (iz_shr rs (by omega : j < 32)) ?_
        refine V_iconst dX11_chanceToSay_47 ?_
        refine V_iand dX11_chanceToSay_48 (iz_and1 _) ?_
        refine V_if_eq (tgt := 58) dX11_chanceToSay_49 rfl (by unfold ri; omega) (fun b49 => ?_) (fun b49 => ?_)
        · rw [if_neg (by omega)] at hx
          refine V_bipush dX11_chanceToSay_58 rfl ?_
          refine V_il7 dX11_chanceToSay_60 ?_
          refine V_isub dX11_chanceToSay_62 ?_
          refine V_i2l dX11_chanceToSay_63 (by unfold ri; omega) ?_
          refine V_lmul dX11_chanceToSay_64 ?_
          refine V_ls4 dX11_chanceToSay_65 (by decide) rfl ?_
          refine V_inc6 dX11_chanceToSay_67 (by decide) rfl ?_
          refine V_goto (tgt := 6) dX11_chanceToSay_70 rfl ?_
          exact V_weak (by repeat (first | exact wk_n | refine wk_c (Or.inr rfl) ?_ | refine wk_c (Or.inl rfl) ?_)) hx
        · rw [if_pos (by omega)] at hx
          refine V_il7 dX11_chanceToSay_52 ?_
          refine V_i2l dX11_chanceToSay_54 (by unfold ri; omega) ?_
          refine V_goto (tgt := 64) dX11_chanceToSay_55 rfl ?_
          refine V_lmul dX11_chanceToSay_64 ?_
          refine V_ls4 dX11_chanceToSay_65 (by decide) rfl ?_
          refine V_inc6 dX11_chanceToSay_67 (by decide) rfl ?_
          refine V_goto (tgt := 6) dX11_chanceToSay_70 rfl ?_
          exact V_weak (by repeat (first | exact wk_n | refine wk_c (Or.inr rfl) ?_ | refine wk_c (Or.inl rfl) ?_)) hx
termination_by nJu T - j
theorem c_chance (hW : TW T b ρ) (hC : CT T b f) {o : Nat → Int} {cl : Nat} (hcl : cl < 2) (ho : ∀ j, j < nJu T → tat T 4 (j : Int) (cl : Int) = o j ∧ 0 ≤ o j ∧ o j ≤ 100) {asked say : Int} (ra : ri asked) (rs : ri say) : C_X11_chanceToSay [.ref 0, .int (iz asked), .int (iz say), .int (iz (cl : Int))] ρ f g (fun r ρ' f' g' => r = some (.long (lz (syS o asked say (nJu T)))) ∧ ρ' = ρ ∧ f' = f ∧ g' = g) := by
  refine Ct.ofV (by decide) rfl (Nat.le_of_ble_eq_true rfl) ?_
  refine V_lconst (a := 1) dX11_chanceToSay_0 rfl ?_
  refine V_ls4 dX11_chanceToSay_1 (by decide) rfl ?_
  refine V_iconst dX11_chanceToSay_3 ?_
  refine V_is6 dX11_chanceToSay_4 (by decide) rfl ?_
  exact w_chance hW hC hcl ho ra rs ⟨rfl, rfl, rfl, rfl⟩ 0 (by omega)
theorem ho125 (hk : TOK T) : ∀ j, j < nJu T → tat T 4 (j : Int) ((0 : Nat) : Int) = T 125 j ∧ 0 ≤ T 125 j ∧ T 125 j ≤ 100 := fun j hj => ⟨tat4 hk hj (by omega), (hk.judge hj).1⟩
theorem ho126 (hk : TOK T) : ∀ j, j < nJu T → tat T 4 (j : Int) ((1 : Nat) : Int) = T 126 j ∧ 0 ≤ T 126 j ∧ T 126 j ≤ 100 := fun j hj => ⟨tat4 hk hj (by omega), (hk.judge hj).2⟩
theorem w_comdiv {Q : QT} {a c : Int} {R : Nat} (hQ : Q (some (.long (lz (R : Int)))) ρ f g) (i : Nat) (hi : i ≤ 100) (x y : Nat) (hx : x < 4611686018427387904) (hxy : y ≤ x) (hx0 : 0 < x) (hp : x * y < 2 ^ (100 - i)) (hR : R = Nat.gcd x y) :
    V_X11_commonDivisor Q 9 [.long (lz a), .null, .long (lz c), .null, .long (lz (x : Int)), .null, .long (lz (y : Int)), .null, .int (iz (i : Int)), .null, .null] [] ρ f g := by
  by_cases e : y = 0
  · subst e
    rw [Nat.gcd_zero_right] at hR
    subst hR
    refine V_il8 dX11_commonDivisor_9 ?_
    refine V_bipush dX11_commonDivisor_11 rfl ?_
    refine V_icmp_ge (tgt := 44) dX11_commonDivisor_13 rfl (by unfold ri; omega) (by unfold ri; omega) (fun b13 => ?_) (fun b13 => ?_)
    · refine V_ll4 dX11_commonDivisor_44 ?_
      exact V_lreturn rfl hQ dX11_commonDivisor_46
    · refine V_ll6 dX11_commonDivisor_16 ?_
      refine V_lconst (a := 0) dX11_commonDivisor_18 rfl ?_
      refine V_lif_eq (tgt := 44) dX11_commonDivisor_19 dX11_commonDivisor_20 rfl (by unfold rl; omega) (by unfold rl; omega) (fun b20 => ?_) (fun b20 => ?_)
      · refine V_ll4 dX11_commonDivisor_44 ?_
        exact V_lreturn rfl hQ dX11_commonDivisor_46
      · exfalso; omega
  · have hm : x % y < y := Nat.mod_lt _ (by omega)
    have hR1 : R = Nat.gcd y (x % y) := by rw [hR, Nat.gcd_comm x y, Nat.gcd_rec y x, Nat.gcd_comm]
    have hi100 : i < 100 := by
      by_cases z : i < 100
      · exact z
      · rw [show 100 - i = 0 by omega] at hp
        have : 1 ≤ x * y := Nat.mul_pos hx0 (by omega)
        omega
    have hhalf : 2 * (x % y) ≤ x := by
      have h1 := Nat.div_add_mod x y
      have h2 : 1 ≤ x / y := Nat.div_pos hxy (by omega)
      have h3 : y * 1 ≤ y * (x / y) := Nat.mul_le_mul_left y h2
      omega
    have hp2 : y * (x % y) < 2 ^ (100 - (i + 1)) := by
      rw [show 100 - i = (100 - (i + 1)) + 1 by omega, Nat.pow_succ] at hp
      have h4 : y * (2 * (x % y)) ≤ y * x := Nat.mul_le_mul_left y hhalf
      rw [Nat.mul_comm y x] at h4
      rw [show y * (2 * (x % y)) = y * (x % y) * 2 by rw [Nat.mul_comm 2, Nat.mul_assoc]] at h4
      omega
    refine V_il8 dX11_commonDivisor_9 ?_
    refine V_bipush dX11_commonDivisor_11 rfl ?_
    refine V_icmp_ge (tgt := 44) dX11_commonDivisor_13 rfl (by unfold ri; omega) (by unfold ri; omega) (fun b13 => ?_) (fun b13 => ?_)
    · exfalso; omega
    · refine V_ll6 dX11_commonDivisor_16 ?_
      refine V_lconst (a := 0) dX11_commonDivisor_18 rfl ?_
      refine V_lif_eq (tgt := 44) dX11_commonDivisor_19 dX11_commonDivisor_20 rfl (by unfold rl; omega) (by unfold rl; omega) (fun b20 => ?_) (fun b20 => ?_)
      · exfalso; omega
      · refine V_ll4 dX11_commonDivisor_23 ?_
        refine V_ll6 dX11_commonDivisor_25 ?_
        refine V_lrem dX11_commonDivisor_27 (lz_ne (by unfold rl; omega) (by omega)) (show lz (x : Int) - lz (x : Int) / lz (y : Int) * lz (y : Int) = lz ((x % y : Nat) : Int) by rw [lz_rem (by omega) (by omega) (by unfold rl; omega) (by unfold rl; omega)]; rfl) ?_
        refine V_ls9 dX11_commonDivisor_28 (by decide) rfl ?_
        refine V_ll6 dX11_commonDivisor_30 ?_
        refine V_ls4 dX11_commonDivisor_32 (by decide) rfl ?_
        refine V_ll9 dX11_commonDivisor_34 ?_
        refine V_ls6 dX11_commonDivisor_36 (by decide) rfl ?_
        refine V_inc8 dX11_commonDivisor_38 (by decide) rfl ?_
        refine V_goto (tgt := 9) dX11_commonDivisor_41 rfl ?_
        exact V_weak (by repeat (first | exact wk_n | refine wk_c (Or.inr rfl) ?_ | refine wk_c (Or.inl rfl) ?_)) (w_comdiv hQ (i + 1) (by omega) y (x % y) (by omega) (by omega) (by omega) hp2 hR1)
termination_by 100 - i
theorem c_comdiv {x y : Nat} (hx : x ≤ 20000000000) (hxy : y ≤ x) (hy : 0 < y) : C_X11_commonDivisor [.long (lz (x : Int)), .long (lz (y : Int))] ρ f g (fun r ρ' f' g' => r = some (.long (lz ((Nat.gcd x y : Nat) : Int))) ∧ ρ' = ρ ∧ f' = f ∧ g' = g) := by
  have hp : x * y < 2 ^ (100 - 0) := by
    have : x * y ≤ 20000000000 * 20000000000 := Nat.mul_le_mul hx (by omega)
    omega
  refine Ct.ofV (by decide) rfl (Nat.le_of_ble_eq_true rfl) ?_
  refine V_ll0n dX11_commonDivisor_0 ?_
  refine V_ls4 dX11_commonDivisor_1 (by decide) rfl ?_
  refine V_ll2n dX11_commonDivisor_3 ?_
  refine V_ls6 dX11_commonDivisor_4 (by decide) rfl ?_
  refine V_iconst dX11_commonDivisor_6 ?_
  refine V_is8 dX11_commonDivisor_7 (by decide) rfl ?_
  exact w_comdiv ⟨rfl, rfl, rfl, rfl⟩ 0 (by omega) x y (by omega) hxy (by omega) hp rfl
end CJUDGE

