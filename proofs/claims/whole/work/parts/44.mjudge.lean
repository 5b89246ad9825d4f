/-! judges -/
theorem w_common {Q : QT} {ρ : RT} {f : IT} {g : JT} {a b : Int} {R : Nat} (hQ : Q (some (.long (lz (R : Int)))) ρ f g) (y x : Nat) (hx : x < 4611686018427387904) (hy : y < 4611686018427387904) (hR : R = Nat.gcd x y) :
    V_X12_common Q 6 [.long (lz a), .null, .long (lz b), .null, .long (lz (x : Int)), .null, .long (lz (y : Int)), .null, .null, .null] [] ρ f g := by
  by_cases e : y = 0
  · subst e
    rw [Nat.gcd_zero_right] at hR
    subst hR
    refine V_ll6 dX12_common_6 ?_
    refine V_lconst (a := 0) dX12_common_8 rfl ?_
    refine V_lif_eq (tgt := 31) dX12_common_9 dX12_common_10 rfl (by first | assumption | (unfold rl at *; omega)) (by first | assumption | (unfold rl at *; omega)) (fun b10 => ?_) (fun b10 => ?_)
    · refine V_ll4 dX12_common_31 ?_
      exact V_lreturn rfl hQ dX12_common_33
    · exfalso; omega
  · have hm : x % y < y := Nat.mod_lt _ (by omega)
    have hR1 : R = Nat.gcd y (x % y) := by rw [hR, Nat.gcd_comm x y, Nat.gcd_rec y x, Nat.gcd_comm]
    refine V_ll6 dX12_common_6 ?_
    refine V_lconst (a := 0) dX12_common_8 rfl ?_
    refine V_lif_eq (tgt := 31) dX12_common_9 dX12_common_10 rfl (by first | assumption | (unfold rl at *; omega)) (by first | assumption | (unfold rl at *; omega)) (fun b10 => ?_) (fun b10 => ?_)
    · exfalso; omega
    · refine V_ll4 dX12_common_13 ?_
      refine V_ll6 dX12_common_15 ?_
      refine V_lrem dX12_common_17 (lz_ne (by unfold rl; omega) (by omega)) (show lz (x : Int) - lz (x : Int) / lz (y : Int) * lz (y : Int) = lz ((x % y : Nat) : Int) by rw [lz_rem (by omega) (by omega) (by unfold rl; omega) (by unfold rl; omega)]; rfl) ?_
      refine V_ls8 dX12_common_18 (by decide) rfl ?_
      refine V_ll6 dX12_common_20 ?_
      refine V_ls4 dX12_common_22 (by decide) rfl ?_
      refine V_ll8 dX12_common_24 ?_
      refine V_ls6 dX12_common_26 (by decide) rfl ?_
      refine V_goto (tgt := 6) dX12_common_28 rfl ?_
      exact V_weak (by repeat (first | exact wk_n | refine wk_c (Or.inr rfl) ?_ | refine wk_c (Or.inl rfl) ?_)) (w_common hQ (x % y) y (by omega) (by omega) hR1)
termination_by y
theorem c_common {ρ : RT} {f : IT} {g : JT} {x y : Nat} (hx : x < 4611686018427387904) (hy : y < 4611686018427387904) : C_X12_common [.long (lz (x : Int)), .long (lz (y : Int))] ρ f g (fun r ρ' f' g' => r = some (.long (lz ((Nat.gcd x y : Nat) : Int))) ∧ ρ' = ρ ∧ f' = f ∧ g' = g) := by
  refine Ct.ofV (by decide) rfl (Nat.le_of_ble_eq_true rfl) ?_
  refine V_ll0n dX12_common_0 ?_
  refine V_ls4 dX12_common_1 (by decide) rfl ?_
  refine V_ll2n dX12_common_3 ?_
  refine V_ls6 dX12_common_4 (by decide) rfl ?_
  exact w_common ⟨rfl, rfl, rfl, rfl⟩ y x hx hy rfl
def syS (o : Nat → Int) (asked say : Int) : Nat → Int
  | 0 => 1
  | j + 1 => if asked / 2 ^ j % 2 = 1 then syS o asked say j * (if say / 2 ^ j % 2 = 1 then o j else 100 - o j) else syS o asked say j
theorem w_says {T : TT} {Q : QT} {ρ : RT} {f : IT} {g : JT} (hT : MT T f) (hk : TOK T) {a : Nat} (ha : kd a = (13, 8)) {o : Nat → Int} (ho : ∀ j, j < nJu T → f a j = o j ∧ 0 ≤ o j ∧ o j ≤ 100) {asked say : Int} (ra : ri asked) (rs : ri say) (hQ : Q (some (.long (lz (syS o asked say (nJu T))))) ρ f g) (j : Nat) (hj : j ≤ nJu T) :
    V_X12_saysOf Q 6 [.ref 104, .ref a, .int (iz asked), .int (iz say), .long (lz (syS o asked say j)), .null, .int (iz (j : Int))] [] ρ f g := by
  have h4 := hk.ju
  by_cases e : j = nJu T
  · subst e
    refine V_il6 dX12_saysOf_6 ?_
    refine V_al0n dX12_saysOf_8 ?_
    refine V_getI kk104 (by decide) fl_X12_262 ((hT 104 16 rfl).trans h4.1) dX12_saysOf_9 ?_
    refine V_icmp_ge (tgt := 60) dX12_saysOf_12 rfl (by first | assumption | (unfold ri at *; omega)) (by first | assumption | (unfold ri at *; omega)) (fun b12 => ?_) (fun b12 => ?_)
    · refine V_ll4 dX12_saysOf_60 ?_
      exact V_lreturn rfl hQ dX12_saysOf_62
    · exfalso; omega
  · have hx := w_says hT hk ha ho ra rs hQ (j + 1) (by omega)
    simp only [syS] at hx
    obtain ⟨o1, o2⟩ := ho j (by omega)
    refine V_il6 dX12_saysOf_6 ?_
    refine V_al0n dX12_saysOf_8 ?_
    refine V_getI kk104 (by decide) fl_X12_262 ((hT 104 16 rfl).trans h4.1) dX12_saysOf_9 ?_
    refine V_icmp_ge (tgt := 60) dX12_saysOf_12 rfl (by first | assumption | (unfold ri at *; omega)) (by first | assumption | (unfold ri at *; omega)) (fun b12 => ?_) (fun b12 => ?_)
    · exfalso; omega
    · refine V_il2n dX12_saysOf_15 ?_
      refine V_il6 dX12_saysOf_16 ?_
      refine V_callS (as := [_, _]) ml_X12_573 sm_X12_isOf dX12_saysOf_18 rfl rfl (by decide) (by decide) (Nat.le_of_ble_eq_true rfl) (by decide) (by decide) rfl (c_isOf ra (by omega : j < 32)) ?_
      refine pq4 ?_
      refine V_bt (tgt := 54) dX12_saysOf_21 rfl (fun b21 => ?_) (fun b21 => ?_)
      · simp only [decide_eq_false_iff_not] at b21
        rw [if_neg b21] at hx
        refine V_inc6 dX12_saysOf_54 (by decide) rfl ?_
        refine V_goto (tgt := 6) dX12_saysOf_57 rfl ?_
        exact hx
      · simp only [decide_eq_true_eq] at b21
        rw [if_pos b21] at hx
        refine V_ll4 dX12_saysOf_24 ?_
        refine V_il3n dX12_saysOf_26 ?_
        refine V_il6 dX12_saysOf_27 ?_
        refine V_callS (as := [_, _]) ml_X12_573 sm_X12_isOf dX12_saysOf_29 rfl rfl (by decide) (by decide) (Nat.le_of_ble_eq_true rfl) (by decide) (by decide) rfl (c_isOf rs (by omega : j < 32)) ?_
        refine pq4 ?_
        refine V_bt (tgt := 43) dX12_saysOf_32 rfl (fun b32 => ?_) (fun b32 => ?_)
        · simp only [decide_eq_false_iff_not] at b32
          rw [if_neg b32] at hx
          refine V_bipush dX12_saysOf_43 rfl ?_
          refine V_al1n dX12_saysOf_45 ?_
          refine V_il6 dX12_saysOf_46 ?_
          refine V_iald (k := j) ha (kdlt ha (by decide)) (by first | rfl | omega) (by omega) (by first | decide | assumption | omega) o1 dX12_saysOf_48 ?_
          refine V_isub dX12_saysOf_49 ?_
          refine V_i2l dX12_saysOf_50 (by first | assumption | (unfold ri at *; omega)) ?_
          refine V_lmul dX12_saysOf_51 ?_
          refine V_ls4 dX12_saysOf_52 (by decide) rfl ?_
          refine V_inc6 dX12_saysOf_54 (by decide) rfl ?_
          refine V_goto (tgt := 6) dX12_saysOf_57 rfl ?_
          exact hx
        · simp only [decide_eq_true_eq] at b32
          rw [if_pos b32] at hx
          refine V_al1n dX12_saysOf_35 ?_
          refine V_il6 dX12_saysOf_36 ?_
          refine V_iald (k := j) ha (kdlt ha (by decide)) (by first | rfl | omega) (by omega) (by first | decide | assumption | omega) o1 dX12_saysOf_38 ?_
          refine V_i2l dX12_saysOf_39 (by first | assumption | (unfold ri at *; omega)) ?_
          refine V_goto (tgt := 51) dX12_saysOf_40 rfl ?_
          refine V_lmul dX12_saysOf_51 ?_
          refine V_ls4 dX12_saysOf_52 (by decide) rfl ?_
          refine V_inc6 dX12_saysOf_54 (by decide) rfl ?_
          refine V_goto (tgt := 6) dX12_saysOf_57 rfl ?_
          exact hx
termination_by nJu T - j
theorem c_saysOf {T : TT} {ρ : RT} {f : IT} {g : JT} (hT : MT T f) (hk : TOK T) {a : Nat} (ha : kd a = (13, 8)) {o : Nat → Int} (ho : ∀ j, j < nJu T → f a j = o j ∧ 0 ≤ o j ∧ o j ≤ 100) {asked say : Int} (ra : ri asked) (rs : ri say) : C_X12_saysOf [.ref 104, .ref a, .int (iz asked), .int (iz say)] ρ f g (fun r ρ' f' g' => r = some (.long (lz (syS o asked say (nJu T)))) ∧ ρ' = ρ ∧ f' = f ∧ g' = g) := by
  refine Ct.ofV (by decide) rfl (Nat.le_of_ble_eq_true rfl) ?_
  refine V_lconst (a := 1) dX12_saysOf_0 rfl ?_
  refine V_ls4 dX12_saysOf_1 (by decide) rfl ?_
  refine V_iconst dX12_saysOf_3 ?_
  refine V_is6 dX12_saysOf_4 (by decide) rfl ?_
  exact w_says hT hk ha ho ra rs ⟨rfl, rfl, rfl, rfl⟩ 0 (by omega)
theorem syS_rng {o : Nat → Int} {asked say : Int} : ∀ j, (∀ i, i < j → 0 ≤ o i ∧ o i ≤ 100) → 0 ≤ syS o asked say j ∧ syS o asked say j ≤ 100 ^ j
  | 0, _ => by simp [syS]
  | j + 1, h => by
    have h1 := syS_rng (asked := asked) (say := say) j (fun i hi => h i (by omega))
    have h2 := h j (by omega)
    have hp : (0 : Int) ≤ 100 ^ j := Int.pow_nonneg (by decide)
    simp only [syS, Int.pow_succ]
    generalize syS o asked say j = x at *
    generalize (100 : Int) ^ j = p at *
    have key : ∀ v : Int, 0 ≤ v ∧ v ≤ 100 → 0 ≤ x * v ∧ x * v ≤ p * 100 := fun v hv => ⟨Int.mul_nonneg h1.1 hv.1, Int.le_trans (Int.mul_le_mul_of_nonneg_right h1.2 hv.1) (Int.mul_le_mul_of_nonneg_left hv.2 hp)⟩
    split
    · split
      · exact key _ h2
      · exact key _ (by omega)
    · omega
def sayO (say asked : Int) : Bool := decide (U say &&& U (-1 - asked) = 0)
def dwnO (T : TT) (h a s w : Int) : Bool := zin h 0 100 && decide (0 ≤ a ∧ a < 2 ^ nJu T) && decide (0 ≤ s) && sayO s a && zin w 0 1
def dwnW (T : TT) (h a s : Int) : Int := h * syS (T 125) a s (nJu T)
def dwnL (T : TT) (h a s : Int) : Int := dwnW T h a s + (100 - h) * syS (T 126) a s (nJu T)
def aDown (T : TT) (h a s w : Int) : Int := if dwnO T h a s w = true then (if dwnL T h a s = 0 then w else (if w = 0 then dwnW T h a s else dwnL T h a s) / ((Nat.gcd (dwnW T h a s).toNat (dwnL T h a s).toNat : Nat) : Int)) else -1
theorem dwn_rng {T : TT} (hk : TOK T) {h a s : Int} (hh : 0 ≤ h ∧ h ≤ 100) : (0 ≤ dwnW T h a s ∧ dwnW T h a s ≤ 10000000000) ∧ (dwnW T h a s ≤ dwnL T h a s ∧ dwnL T h a s ≤ 20000000000) := by
  have h4 := hk.ju
  have h1 := syS_rng (o := T 125) (asked := a) (say := s) (nJu T) (fun i hi => (hk.judge hi).1)
  have h2 := syS_rng (o := T 126) (asked := a) (say := s) (nJu T) (fun i hi => (hk.judge hi).2)
  have hp : (100 : Int) ^ nJu T ≤ 100000000 := by rcases (show nJu T = 0 ∨ nJu T = 1 ∨ nJu T = 2 ∨ nJu T = 3 ∨ nJu T = 4 by omega) with q | q | q | q | q <;> rw [q] <;> decide
  unfold dwnL dwnW
  generalize syS (T 125) a s (nJu T) = x at *
  generalize syS (T 126) a s (nJu T) = y at *
  have k1 : 0 ≤ h * x := Int.mul_nonneg hh.1 h1.1
  have k2 : h * x ≤ 100 * x := Int.mul_le_mul_of_nonneg_right hh.2 h1.1
  have k3 : 0 ≤ (100 - h) * y := Int.mul_nonneg (by omega) h2.1
  have k4 : (100 - h) * y ≤ 100 * y := Int.mul_le_mul_of_nonneg_right (by omega) h2.1
  omega
theorem div_p0j {a : Int} {n : Nat} (hn : n ≤ 4) (ha : 0 ≤ a) : a / 2 ^ n = 0 ↔ a < 2 ^ n := by
  rcases (show n = 0 ∨ n = 1 ∨ n = 2 ∨ n = 3 ∨ n = 4 by omega) with rfl | rfl | rfl | rfl | rfl <;> simp <;> omega
theorem c_mdown {T : TT} {ρ : RT} {f : IT} {g : JT} (hρ : Fx ρ) (hT : MT T f) (hk : TOK T) {h a s w : Int} (rh : ri h) (ra : ri a) (rs : ri s) (rw_ : ri w) :
    C_X12_down [.ref 104, .int (iz h), .int (iz a), .int (iz s), .int (iz w)] ρ f g (fun r ρ' f' g' => r = some (.long (lz (aDown T h a s w))) ∧ ρ' = ρ ∧ KM f f' ∧ KM g g') := by
  have k0 : KM f (u2 f 104 2 0) := KM.u2 rfl KM.rf
  have hT1 : MT T (u2 f 104 2 0) := hT.km k0
  have h4 := hk.ju
  have o1 : ∀ j, j < nJu T → (u2 f 104 2 0) 125 j = T 125 j ∧ 0 ≤ T 125 j ∧ T 125 j ≤ 100 := fun j hj => ⟨hT1.at (n := 4) rfl (by omega), (hk.judge hj).1⟩
  have o2 : ∀ j, j < nJu T → (u2 f 104 2 0) 126 j = T 126 j ∧ 0 ≤ T 126 j ∧ T 126 j ≤ 100 := fun j hj => ⟨hT1.at (n := 4) rfl (by omega), (hk.judge hj).2⟩
  have p16 : (2 : Int) ^ nJu T ≤ 16 := by rcases (show nJu T = 0 ∨ nJu T = 1 ∨ nJu T = 2 ∨ nJu T = 3 ∨ nJu T = 4 by omega) with q | q | q | q | q <;> rw [q] <;> decide
  refine Ct.ofV (by decide) rfl (Nat.le_of_ble_eq_true rfl) ?_
  refine V_al0n dX12_down_0 ?_
  refine V_iconst dX12_down_1 ?_
  refine V_putI kk104 (by decide) fl_X12_154 rfl dX12_down_2 ?_
  refine V_il1n dX12_down_5 ?_
  refine V_iconst dX12_down_6 ?_
  refine V_bipush dX12_down_7 rfl ?_
  refine V_callS (as := [_, _, _]) ml_X12_199 sm_X12_isIn dX12_down_9 rfl rfl (by decide) (by decide) (Nat.le_of_ble_eq_true rfl) (by decide) (by decide) rfl (c_isIn rh (by unfold ri; omega) (by unfold ri; omega)) ?_
  refine pq4 ?_
  refine V_bt (tgt := 50) dX12_down_12 rfl (fun b12 => ?_) (fun b12 => ?_)
  · have eo : dwnO T h a s w = false := by unfold dwnO; rw [b12]; rfl
    refine V_ldc2_w (a := -1) kl_X12_597 rfl dX12_down_50 ?_
    exact V_lreturn rfl ⟨by unfold aDown; rw [eo]; rfl, rfl, k0, KM.rf⟩ dX12_down_53
  · refine V_il2n dX12_down_15 ?_
    refine V_if_lt (tgt := 50) dX12_down_16 rfl (by first | assumption | (unfold ri at *; omega)) (fun b16 => ?_) (fun b16 => ?_)
    · have eo : dwnO T h a s w = false := by unfold dwnO; rw [decide_eq_false (show ¬ (0 ≤ a ∧ a < 2 ^ nJu T) by omega)]; simp
      refine V_ldc2_w (a := -1) kl_X12_597 rfl dX12_down_50 ?_
      exact V_lreturn rfl ⟨by unfold aDown; rw [eo]; rfl, rfl, k0, KM.rf⟩ dX12_down_53
    · have hd := div_p0j h4.2 (a := a) (by omega)
      have hq : ri (a / 2 ^ nJu T) := by unfold ri at *; constructor; (have := Int.ediv_nonneg (a := a) (b := 2 ^ nJu T) (by omega) (Int.pow_nonneg (by decide)); omega); (have := Int.ediv_le_self (2 ^ nJu T) (a := a) (by omega); omega)
      refine V_il2n dX12_down_19 ?_
      refine V_al0n dX12_down_20 ?_
      refine V_getI kk104 (by decide) fl_X12_262 (u2_n (by decide) ((hT 104 16 rfl).trans h4.1)) dX12_down_21 ?_
      refine V_ishr dX12_down_24 (iz_shr ra (by omega : nJu T < 32)) ?_
      refine V_if_ne (tgt := 50) dX12_down_25 rfl (by first | assumption | (unfold ri at *; omega)) (fun b25 => ?_) (fun b25 => ?_)
      · have eo : dwnO T h a s w = false := by unfold dwnO; rw [decide_eq_false (show ¬ (0 ≤ a ∧ a < 2 ^ nJu T) from fun q => b25 (hd.mpr q.2))]; simp
        refine V_ldc2_w (a := -1) kl_X12_597 rfl dX12_down_50 ?_
        exact V_lreturn rfl ⟨by unfold aDown; rw [eo]; rfl, rfl, k0, KM.rf⟩ dX12_down_53
      · have ha2 := hd.mp b25
        obtain ⟨aN, rfl⟩ : ∃ n : Nat, a = n := ⟨a.toNat, by omega⟩
        refine V_il3n dX12_down_28 ?_
        refine V_if_lt (tgt := 50) dX12_down_29 rfl (by first | assumption | (unfold ri at *; omega)) (fun b29 => ?_) (fun b29 => ?_)
        · have eo : dwnO T h (aN : Int) s w = false := by unfold dwnO; rw [decide_eq_false (show ¬ 0 ≤ s by omega)]; simp
          refine V_ldc2_w (a := -1) kl_X12_597 rfl dX12_down_50 ?_
          exact V_lreturn rfl ⟨by unfold aDown; rw [eo]; rfl, rfl, k0, KM.rf⟩ dX12_down_53
        · refine V_il3n dX12_down_32 ?_
          refine V_il2n dX12_down_33 ?_
          refine V_iconst dX12_down_34 ?_
          refine V_ixor dX12_down_35 (iz_m1x aN (by omega)) ?_
          refine V_iand dX12_down_36 (iz_and _ _) ?_
          refine V_if_ne (tgt := 50) dX12_down_37 rfl (by have h1 := Nat.and_le_left (n := U s) (m := U (-1 - (aN : Int))); have h2 : (U s : Int) = s := by { unfold U; unfold ri at rs; omega }; unfold ri at *; omega) (fun b37 => ?_) (fun b37 => ?_)
          · have eo : dwnO T h (aN : Int) s w = false := by unfold dwnO sayO; rw [decide_eq_false (show ¬ (U s &&& U (-1 - (aN : Int))) = 0 by omega)]; simp
            refine V_ldc2_w (a := -1) kl_X12_597 rfl dX12_down_50 ?_
            exact V_lreturn rfl ⟨by unfold aDown; rw [eo]; rfl, rfl, k0, KM.rf⟩ dX12_down_53
          · refine V_il4 dX12_down_40 ?_
            refine V_iconst dX12_down_42 ?_
            refine V_iconst dX12_down_43 ?_
            refine V_callS (as := [_, _, _]) ml_X12_199 sm_X12_isIn dX12_down_44 rfl rfl (by decide) (by decide) (Nat.le_of_ble_eq_true rfl) (by decide) (by decide) rfl (c_isIn rw_ (by unfold ri; omega) (by unfold ri; omega)) ?_
            refine pq4 ?_
            refine V_bf (tgt := 54) dX12_down_47 rfl (fun b47 => ?_) (fun b47 => ?_)
            · have eo : dwnO T h (aN : Int) s w = true := by unfold dwnO sayO; rw [b12, b47, decide_eq_true (show (U s &&& U (-1 - (aN : Int))) = 0 by omega), decide_eq_true (show 0 ≤ s by omega), decide_eq_true (show 0 ≤ (aN : Int) ∧ (aN : Int) < 2 ^ nJu T from ⟨by omega, ha2⟩)]; rfl
              have c1 := b12
              have c2 := b47
              unfold zin at c1 c2
              simp only [decide_eq_true_eq] at c1 c2
              have hrg := dwn_rng hk (h := h) (a := (aN : Int)) (s := s) (by omega)
              have ea : aDown T h (aN : Int) s w = (if dwnL T h (aN : Int) s = 0 then w else (if w = 0 then dwnW T h (aN : Int) s else dwnL T h (aN : Int) s) / ((Nat.gcd (dwnW T h (aN : Int) s).toNat (dwnL T h (aN : Int) s).toNat : Nat) : Int)) := by unfold aDown; rw [eo, if_pos rfl]
              refine V_il1n dX12_down_54 ?_
              refine V_i2l dX12_down_55 (by first | assumption | (unfold ri at *; omega)) ?_
              refine V_al0n dX12_down_56 ?_
              refine V_al0n dX12_down_57 ?_
              refine V_getR kk104 (by decide) fl_X12_75 (fx_104_48 hρ) dX12_down_58 ?_
              refine V_il2n dX12_down_61 ?_
              refine V_il3n dX12_down_62 ?_
              refine V_callV (as := [_, _, _]) ml_X12_599 im_X12_saysOf se_X12_saysOf kk104 (by decide) (by decide) dX12_down_63 rfl rfl (by decide) (by decide) (Nat.le_of_ble_eq_true rfl) (by decide) (by decide) rfl (c_saysOf hT1 hk kk125 o1 (by unfold ri; omega) rs) ?_
              refine pq4 ?_
              refine V_lmul dX12_down_66 ?_
              refine V_ls5 dX12_down_67 (by decide) rfl ?_
              refine V_ll5 dX12_down_69 ?_
              refine V_bipush dX12_down_71 rfl ?_
              refine V_il1n dX12_down_73 ?_
              refine V_isub dX12_down_74 ?_
              refine V_i2l dX12_down_75 (by first | assumption | (unfold ri at *; omega)) ?_
              refine V_al0n dX12_down_76 ?_
              refine V_al0n dX12_down_77 ?_
              refine V_getR kk104 (by decide) fl_X12_78 (fx_104_49 hρ) dX12_down_78 ?_
              refine V_il2n dX12_down_81 ?_
              refine V_il3n dX12_down_82 ?_
              refine V_callV (as := [_, _, _]) ml_X12_599 im_X12_saysOf se_X12_saysOf kk104 (by decide) (by decide) dX12_down_83 rfl rfl (by decide) (by decide) (Nat.le_of_ble_eq_true rfl) (by decide) (by decide) rfl (c_saysOf hT1 hk kk126 o2 (by unfold ri; omega) rs) ?_
              refine pq4 ?_
              refine V_lmul dX12_down_86 ?_
              refine V_ladd dX12_down_87 ?_
              refine V_ls7 dX12_down_88 (by decide) rfl ?_
              have hx : ∀ (x y : Nat), dwnW T h (aN : Int) s = x → dwnL T h (aN : Int) s = y → V_X12_down (fun r ρ' f' g' => r = some (.long (lz (aDown T h (aN : Int) s w))) ∧ ρ' = ρ ∧ KM f f' ∧ KM g g') 90 [.ref 104, .int (iz h), .int (iz (aN : Int)), .int (iz s), .int (iz w), .long (lz (x : Int)), .null, .long (lz (y : Int)), .null] [] ρ (u2 f 104 2 0) g := fun x y ex ey => by
                rw [ex, ey] at ea hrg
                simp only [Int.toNat_natCast] at ea
                have hgl : 0 < y → 0 < Nat.gcd x y := fun hy => Nat.gcd_pos_of_pos_right x hy
                have hgx := Nat.gcd_le_right (m := x) (n := y)
                refine V_ll7 dX12_down_90 ?_
                refine V_lconst (a := 0) dX12_down_92 rfl ?_
                refine V_lif_ne (tgt := 101) dX12_down_93 dX12_down_94 rfl (by unfold rl; omega) (by unfold rl; omega) (fun b94 => ?_) (fun b94 => ?_)
                · have hgl := hgl (by omega)
                  have hgx := hgx (by omega)
                  have fin : ∀ z : Nat, z ≤ 20000000000 → lz (z : Int) / lz ((Nat.gcd x y : Nat) : Int) = lz ((z : Int) / ((Nat.gcd x y : Nat) : Int)) := fun z hz => lz_div (by omega) (by omega) (by unfold rl; omega) (by unfold rl; omega)
                  refine V_il4 dX12_down_101 ?_
                  refine V_if_ne (tgt := 111) dX12_down_103 rfl (by unfold ri; omega) (fun b103 => ?_) (fun b103 => ?_)
                  · refine V_ll7 dX12_down_111 ?_
                    refine V_ll5 dX12_down_113 ?_
                    refine V_ll7 dX12_down_115 ?_
                    refine V_callS (as := [_, _]) ml_X12_603 sm_X12_common dX12_down_117 rfl rfl (by decide) (by decide) (Nat.le_of_ble_eq_true rfl) (by decide) (by decide) rfl (c_common (x := x) (y := y) (by omega) (by omega)) ?_
                    refine pq4 ?_
                    refine V_ldiv dX12_down_120 (lz_ne (by unfold rl; omega) (by omega)) (fin y (by omega)) ?_
                    exact V_lreturn rfl ⟨by rw [ea, if_neg (by omega), if_neg (by omega)], rfl, k0, KM.rf⟩ dX12_down_121
                  · refine V_ll5 dX12_down_106 ?_
                    refine V_goto (tgt := 113) dX12_down_108 rfl ?_
                    refine V_ll5 dX12_down_113 ?_
                    refine V_ll7 dX12_down_115 ?_
                    refine V_callS (as := [_, _]) ml_X12_603 sm_X12_common dX12_down_117 rfl rfl (by decide) (by decide) (Nat.le_of_ble_eq_true rfl) (by decide) (by decide) rfl (c_common (x := x) (y := y) (by omega) (by omega)) ?_
                    refine pq4 ?_
                    refine V_ldiv dX12_down_120 (lz_ne (by unfold rl; omega) (by omega)) (fin x (by omega)) ?_
                    exact V_lreturn rfl ⟨by rw [ea, if_neg (by omega), if_pos b103], rfl, k0, KM.rf⟩ dX12_down_121
                · refine V_il4 dX12_down_97 ?_
                  refine V_i2l dX12_down_99 rw_ ?_
                  exact V_lreturn rfl ⟨by rw [ea, if_pos (by omega)], rfl, k0, KM.rf⟩ dX12_down_100
              have hz := hx (dwnW T h (aN : Int) s).toNat (dwnL T h (aN : Int) s).toNat (by omega) (by omega)
              rw [Int.toNat_of_nonneg (by omega), Int.toNat_of_nonneg (by omega)] at hz
              exact hz
            · have eo : dwnO T h (aN : Int) s w = false := by unfold dwnO; rw [b47]; simp
              refine V_ldc2_w (a := -1) kl_X12_597 rfl dX12_down_50 ?_
              exact V_lreturn rfl ⟨by unfold aDown; rw [eo]; rfl, rfl, k0, KM.rf⟩ dX12_down_53

