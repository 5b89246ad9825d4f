def lkS (o : Nat → Int) (n : Nat) (k : Int) (fw : Bool) : Nat → Int
  | 0 => 0
  | s + 1 => lkS o n k fw s + (if decide (insN (s : Int) < k) = fw then syS o (2 ^ n - 1) (s : Int) n else 0)
theorem w_likely {T : TT} {Q : QT} {ρ : RT} {f : IT} {g : JT} (hT : MT T f) (hk : TOK T) {a : Nat} (ha : kd a = (13, 8)) {o : Nat → Int} (ho : ∀ j, j < nJu T → f a j = o j ∧ 0 ≤ o j ∧ o j ≤ 100) {k : Int} (rk : ri k) {fw : Bool} {N : Nat} (hN : 2 ^ nJu T = N) (hQ : Q (some (.int (iz (lkS o (nJu T) k fw N)))) ρ f g) (s : Nat) (hs : s ≤ N) :
    V_X12_likelyOf Q 16 [.ref 104, .ref a, .int (iz k), .int (iz (bz fw)), .int (iz ((N : Int) - 1)), .long (lz (lkS o (nJu T) k fw s)), .null, .int (iz (s : Int))] [] ρ f g := by
  have h4 := hk.ju
  have hN16 : N ≤ 16 := by
    rw [← hN]
    have : (2 : Nat) ^ nJu T ≤ 2 ^ 4 := Nat.pow_le_pow_right (by omega) (by omega)
    omega
  have eN : (2 : Int) ^ nJu T - 1 = (N : Int) - 1 := by rw [← hN]; simp
  by_cases e : s = N
  · subst e
    refine V_il7 dX12_likelyOf_16 ?_
    refine V_il4 dX12_likelyOf_18 ?_
    refine V_icmp_gt (tgt := 61) dX12_likelyOf_20 rfl (by first | assumption | (unfold ri at *; omega)) (by first | assumption | (unfold ri at *; omega)) (fun b20 => ?_) (fun b20 => ?_)
    · refine V_ll5 dX12_likelyOf_61 ?_
      refine V_l2i dX12_likelyOf_63 ?_
      exact V_ireturn rfl hQ dX12_likelyOf_64
    · exfalso; omega
  · have hx := w_likely hT hk ha ho rk (fw := fw) hN hQ (s + 1) (by omega)
    simp only [lkS] at hx
    have hin := insN_rng (s : Int)
    refine V_il7 dX12_likelyOf_16 ?_
    refine V_il4 dX12_likelyOf_18 ?_
    refine V_icmp_gt (tgt := 61) dX12_likelyOf_20 rfl (by first | assumption | (unfold ri at *; omega)) (by first | assumption | (unfold ri at *; omega)) (fun b20 => ?_) (fun b20 => ?_)
    · exfalso; omega
    · refine V_il7 dX12_likelyOf_23 ?_
      refine V_callS (as := [_]) ml_X12_579 sm_X12_insideOf dX12_likelyOf_25 rfl rfl (by decide) (by decide) (Nat.le_of_ble_eq_true rfl) (by decide) (by decide) rfl (c_insideOf (a := (s : Int)) (by unfold ri; omega)) ?_
      refine pq4 ?_
      refine V_il2n dX12_likelyOf_28 ?_
      refine V_icmp_ge (tgt := 36) dX12_likelyOf_29 rfl (by first | assumption | (unfold ri at *; omega)) (by first | assumption | (unfold ri at *; omega)) (fun b29 => ?_) (fun b29 => ?_)
      · refine V_iconst dX12_likelyOf_36 ?_
        refine V_il3n dX12_likelyOf_37 ?_
        refine V_icmp_ne (tgt := 55) dX12_likelyOf_38 rfl (by first | (unfold ri; omega) | (unfold ri bz; split <;> omega)) (by first | (unfold ri; omega) | (unfold ri bz; split <;> omega)) (fun b38 => ?_) (fun b38 => ?_)
        · refine V_inc7 dX12_likelyOf_55 (by decide) rfl ?_
          refine V_goto (tgt := 16) dX12_likelyOf_58 rfl ?_
          rw [if_neg (by intro q; cases fw <;> simp [bz] at * <;> omega), Int.add_zero] at hx
          exact hx
        · refine V_ll5 dX12_likelyOf_41 ?_
          refine V_al0n dX12_likelyOf_43 ?_
          refine V_al1n dX12_likelyOf_44 ?_
          refine V_il4 dX12_likelyOf_45 ?_
          refine V_il7 dX12_likelyOf_47 ?_
          refine V_callV (as := [_, _, _]) ml_X12_599 im_X12_saysOf se_X12_saysOf kk104 (by decide) (by decide) dX12_likelyOf_49 rfl rfl (by decide) (by decide) (Nat.le_of_ble_eq_true rfl) (by decide) (by decide) rfl (c_saysOf hT hk ha ho (asked := (N : Int) - 1) (say := (s : Int)) (by unfold ri; omega) (by unfold ri; omega)) ?_
          refine pq4 ?_
          refine V_ladd dX12_likelyOf_52 ?_
          refine V_ls5 dX12_likelyOf_53 (by decide) rfl ?_
          refine V_inc7 dX12_likelyOf_55 (by decide) rfl ?_
          refine V_goto (tgt := 16) dX12_likelyOf_58 rfl ?_
          rw [if_pos (by cases fw <;> simp [bz] at * <;> omega), eN] at hx
          exact hx
      · refine V_iconst dX12_likelyOf_32 ?_
        refine V_goto (tgt := 37) dX12_likelyOf_33 rfl ?_
        refine V_il3n dX12_likelyOf_37 ?_
        refine V_icmp_ne (tgt := 55) dX12_likelyOf_38 rfl (by first | (unfold ri; omega) | (unfold ri bz; split <;> omega)) (by first | (unfold ri; omega) | (unfold ri bz; split <;> omega)) (fun b38 => ?_) (fun b38 => ?_)
        · refine V_inc7 dX12_likelyOf_55 (by decide) rfl ?_
          refine V_goto (tgt := 16) dX12_likelyOf_58 rfl ?_
          rw [if_neg (by intro q; cases fw <;> simp [bz] at * <;> omega), Int.add_zero] at hx
          exact hx
        · refine V_ll5 dX12_likelyOf_41 ?_
          refine V_al0n dX12_likelyOf_43 ?_
          refine V_al1n dX12_likelyOf_44 ?_
          refine V_il4 dX12_likelyOf_45 ?_
          refine V_il7 dX12_likelyOf_47 ?_
          refine V_callV (as := [_, _, _]) ml_X12_599 im_X12_saysOf se_X12_saysOf kk104 (by decide) (by decide) dX12_likelyOf_49 rfl rfl (by decide) (by decide) (Nat.le_of_ble_eq_true rfl) (by decide) (by decide) rfl (c_saysOf hT hk ha ho (asked := (N : Int) - 1) (say := (s : Int)) (by unfold ri; omega) (by unfold ri; omega)) ?_
          refine pq4 ?_
          refine V_ladd dX12_likelyOf_52 ?_
          refine V_ls5 dX12_likelyOf_53 (by decide) rfl ?_
          refine V_inc7 dX12_likelyOf_55 (by decide) rfl ?_
          refine V_goto (tgt := 16) dX12_likelyOf_58 rfl ?_
          rw [if_pos (by cases fw <;> simp [bz] at * <;> omega), eN] at hx
          exact hx
termination_by N - s
theorem c_likelyOf {T : TT} {ρ : RT} {f : IT} {g : JT} (hT : MT T f) (hk : TOK T) {a : Nat} (ha : kd a = (13, 8)) {o : Nat → Int} (ho : ∀ j, j < nJu T → f a j = o j ∧ 0 ≤ o j ∧ o j ≤ 100) {k : Int} (rk : ri k) {fw : Bool} :
    C_X12_likelyOf [.ref 104, .ref a, .int (iz k), .int (iz (bz fw))] ρ f g (fun r ρ' f' g' => r = some (.int (iz (lkS o (nJu T) k fw (2 ^ nJu T)))) ∧ ρ' = ρ ∧ f' = f ∧ g' = g) := by
  have h4 := hk.ju
  refine Ct.ofV (by decide) rfl (Nat.le_of_ble_eq_true rfl) ?_
  refine V_iconst dX12_likelyOf_0 ?_
  refine V_al0n dX12_likelyOf_1 ?_
  refine V_getI kk104 (by decide) fl_X12_262 ((hT 104 16 rfl).trans h4.1) dX12_likelyOf_2 ?_
  refine V_ishl dX12_likelyOf_5 (iz_shlE (b := nJu T) (v := ((2 ^ nJu T : Nat) : Int)) rfl (by omega) (by simp)) ?_
  refine V_iconst dX12_likelyOf_6 ?_
  refine V_isub dX12_likelyOf_7 ?_
  refine V_is4 dX12_likelyOf_8 (by decide) rfl ?_
  refine V_lconst (a := 0) dX12_likelyOf_10 rfl ?_
  refine V_ls5 dX12_likelyOf_11 (by decide) rfl ?_
  refine V_iconst dX12_likelyOf_13 ?_
  refine V_is7 dX12_likelyOf_14 (by decide) rfl ?_
  exact w_likely hT hk ha ho rk rfl ⟨rfl, rfl, rfl, rfl⟩ 0 (Nat.zero_le _)
/-! all that they can say is 100 of 100 -/
theorem sumTo_add {s : Nat → Int} (a : Nat) : ∀ b, sumTo s (a + b) = sumTo s a + sumTo (fun i => s (a + i)) b
  | 0 => by simp [sumTo]
  | b + 1 => by rw [← Nat.add_assoc]; simp only [sumTo]; rw [sumTo_add a b]; omega
theorem sumTo_cg {s t : Nat → Int} : ∀ n, (∀ i, i < n → s i = t i) → sumTo s n = sumTo t n
  | 0, _ => rfl
  | n + 1, h => by simp only [sumTo]; rw [sumTo_cg n (fun i hi => h i (by omega)), h n (by omega)]
theorem sumTo_mul {s : Nat → Int} (c : Int) : ∀ n, sumTo (fun i => s i * c) n = sumTo s n * c
  | 0 => by simp [sumTo]
  | n + 1 => by simp only [sumTo]; rw [sumTo_mul c n, Int.add_mul]
def pS (o : Nat → Int) (s : Nat) : Nat → Int
  | 0 => 1
  | j + 1 => pS o s j * (if s / 2 ^ j % 2 = 1 then o j else 100 - o j)
theorem pS_hi {o : Nat → Int} {s n : Nat} : ∀ j, j ≤ n → pS o (2 ^ n + s) j = pS o s j
  | 0, _ => rfl
  | j + 1, h => by
    simp only [pS]
    rw [pS_hi j (by omega)]
    have e : (2 ^ n + s) / 2 ^ j % 2 = s / 2 ^ j % 2 := by
      rw [show (2 : Nat) ^ n = 2 ^ j * (2 * 2 ^ (n - j - 1)) by rw [← Nat.pow_succ', ← Nat.pow_add]; congr 1; omega]
      rw [Nat.mul_add_div (Nat.pow_pos (by omega))]
      omega
    rw [e]
theorem pS_sum {o : Nat → Int} : ∀ n, sumTo (fun s => pS o s n) (2 ^ n) = 100 ^ n
  | 0 => by simp [sumTo, pS]
  | n + 1 => by
    have h := pS_sum (o := o) n
    rw [Nat.pow_succ, Nat.mul_two, sumTo_add]
    have a1 : sumTo (fun s => pS o s (n + 1)) (2 ^ n) = sumTo (fun s => pS o s n * (100 - o n)) (2 ^ n) := sumTo_cg _ (fun i hi => by
      simp only [pS]
      rw [Nat.div_eq_of_lt hi]
      simp)
    have a2 : sumTo (fun i => pS o (2 ^ n + i) (n + 1)) (2 ^ n) = sumTo (fun s => pS o s n * o n) (2 ^ n) := sumTo_cg _ (fun i hi => by
      simp only [pS]
      rw [pS_hi n (by omega), Nat.add_div_left _ (Nat.pow_pos (by omega)), Nat.div_eq_of_lt hi]
      simp)
    rw [a1, a2, sumTo_mul, sumTo_mul, h, Int.pow_succ]
    rw [← Int.mul_add]
    congr 1
    omega
theorem p2m1 {n j : Nat} (h : j < n) : ((2 : Int) ^ n - 1) / 2 ^ j % 2 = 1 := by
  have e : (2 : Int) ^ n = 2 ^ j * (2 * 2 ^ (n - j - 1)) := by
    rw [show n = j + ((n - j - 1) + 1) by omega, Int.pow_add, Int.pow_succ]
    congr 1
    rw [Int.mul_comm]
    congr 2
    omega
  have hp : (0 : Int) < 2 ^ j := Int.pow_pos (by decide)
  have e2 : (2 : Int) ^ n - 1 = (2 ^ j - 1) + 2 ^ j * (2 * 2 ^ (n - j - 1) - 1) := by
    rw [e, Int.mul_sub, Int.mul_one]
    omega
  rw [e2, Int.add_mul_ediv_left _ _ (by omega), Int.ediv_eq_zero_of_lt (by omega) (by omega)]
  omega
theorem syS_pS {o : Nat → Int} {n s : Nat} : ∀ j, j ≤ n → syS o (2 ^ n - 1) (s : Int) j = pS o s j
  | 0, _ => rfl
  | j + 1, h => by
    simp only [syS, pS]
    rw [if_pos (p2m1 (by omega)), syS_pS j (by omega)]
    congr 1
    have e : (s : Int) / 2 ^ j % 2 = ((s / 2 ^ j % 2 : Nat) : Int) := by simp
    rw [e]
    by_cases q : s / 2 ^ j % 2 = 1
    · rw [if_pos q, if_pos (by omega)]
    · rw [if_neg q, if_neg (by omega)]
theorem lkS_rng {o : Nat → Int} {n : Nat} (ho : ∀ i, i < n → 0 ≤ o i ∧ o i ≤ 100) {k : Int} {fw : Bool} : ∀ s, 0 ≤ lkS o n k fw s ∧ lkS o n k fw s ≤ sumTo (fun s => pS o s n) s
  | 0 => by simp [lkS, sumTo]
  | s + 1 => by
    have h1 := lkS_rng ho (k := k) (fw := fw) s
    have h2 := syS_rng (o := o) (asked := 2 ^ n - 1) (say := (s : Int)) n ho
    simp only [lkS, sumTo]
    rw [← syS_pS n (Nat.le_refl _)]
    split <;> omega
def missS (T : TT) (k : Int) : Int := lkS (T 125) (nJu T) k true (2 ^ nJu T)
def wronS (T : TT) (k : Int) : Int := lkS (T 126) (nJu T) k false (2 ^ nJu T)
theorem mw_rng {T : TT} (hk : TOK T) (k : Int) : (0 ≤ missS T k ∧ missS T k ≤ 100000000) ∧ (0 ≤ wronS T k ∧ wronS T k ≤ 100000000) := by
  have h4 := hk.ju
  have h1 := lkS_rng (o := T 125) (n := nJu T) (fun i hi => (hk.judge hi).1) (k := k) (fw := true) (2 ^ nJu T)
  have h2 := lkS_rng (o := T 126) (n := nJu T) (fun i hi => (hk.judge hi).2) (k := k) (fw := false) (2 ^ nJu T)
  rw [pS_sum] at h1 h2
  have hp : (100 : Int) ^ nJu T ≤ 100000000 := by rcases (show nJu T = 0 ∨ nJu T = 1 ∨ nJu T = 2 ∨ nJu T = 3 ∨ nJu T = 4 by omega) with q | q | q | q | q <;> rw [q] <;> decide
  unfold missS wronS
  omega
def aErrors (T : TT) (k w : Int) : Int := if (zin k 0 5 && zin w 0 1) = true then (if w = 0 then missS T k else wronS T k) else -1
theorem c_merrors {T : TT} {ρ : RT} {f : IT} {g : JT} (hρ : Fx ρ) (hT : MT T f) (hk : TOK T) {k w : Int} (rk : ri k) (rw_ : ri w) :
    C_X12_errors [.ref 104, .int (iz k), .int (iz w)] ρ f g (fun r ρ' f' g' => r = some (.int (iz (aErrors T k w))) ∧ ρ' = ρ ∧ KM f f' ∧ KM g g') := by
  have k0 : KM f (u2 f 104 2 0) := KM.u2 rfl KM.rf
  have hT1 : MT T (u2 f 104 2 0) := hT.km k0
  have h4 := hk.ju
  have o1 : ∀ j, j < nJu T → (u2 f 104 2 0) 125 j = T 125 j ∧ 0 ≤ T 125 j ∧ T 125 j ≤ 100 := fun j hj => ⟨hT1.at (n := 4) rfl (by omega), (hk.judge hj).1⟩
  have o2 : ∀ j, j < nJu T → (u2 f 104 2 0) 126 j = T 126 j ∧ 0 ≤ T 126 j ∧ T 126 j ≤ 100 := fun j hj => ⟨hT1.at (n := 4) rfl (by omega), (hk.judge hj).2⟩
  refine Ct.ofV (by decide) rfl (Nat.le_of_ble_eq_true rfl) ?_
  refine V_al0n dX12_errors_0 ?_
  refine V_iconst dX12_errors_1 ?_
  refine V_putI kk104 (by decide) fl_X12_154 rfl dX12_errors_2 ?_
  refine V_il1n dX12_errors_5 ?_
  refine V_iconst dX12_errors_6 ?_
  refine V_iconst dX12_errors_7 ?_
  refine V_callS (as := [_, _, _]) ml_X12_199 sm_X12_isIn dX12_errors_8 rfl rfl (by decide) (by decide) (Nat.le_of_ble_eq_true rfl) (by decide) (by decide) rfl (c_isIn rk (by unfold ri; omega) (by unfold ri; omega)) ?_
  refine pq4 ?_
  refine V_bt (tgt := 23) dX12_errors_11 rfl (fun b11 => ?_) (fun b11 => ?_)
  · refine V_iconst dX12_errors_23 ?_
    exact V_ireturn rfl ⟨by unfold aErrors; simp only [*]; simp, rfl, k0, KM.rf⟩ dX12_errors_24
  · refine V_il2n dX12_errors_14 ?_
    refine V_iconst dX12_errors_15 ?_
    refine V_iconst dX12_errors_16 ?_
    refine V_callS (as := [_, _, _]) ml_X12_199 sm_X12_isIn dX12_errors_17 rfl rfl (by decide) (by decide) (Nat.le_of_ble_eq_true rfl) (by decide) (by decide) rfl (c_isIn rw_ (by unfold ri; omega) (by unfold ri; omega)) ?_
    refine pq4 ?_
    refine V_bf (tgt := 25) dX12_errors_20 rfl (fun b20 => ?_) (fun b20 => ?_)
    · have ea : aErrors T k w = (if w = 0 then missS T k else wronS T k) := by unfold aErrors; rw [b11, b20]; rfl
      refine V_il2n dX12_errors_25 ?_
      refine V_if_ne (tgt := 42) dX12_errors_26 rfl (by first | assumption | (unfold ri at *; omega)) (fun b26 => ?_) (fun b26 => ?_)
      · refine V_al0n dX12_errors_42 ?_
        refine V_al0n dX12_errors_43 ?_
        refine V_getR kk104 (by decide) fl_X12_78 (fx_104_49 hρ) dX12_errors_44 ?_
        refine V_il1n dX12_errors_47 ?_
        refine V_iconst dX12_errors_48 ?_
        refine V_callV (as := [_, _, _]) ml_X12_606 im_X12_likelyOf se_X12_likelyOf kk104 (by decide) (by decide) dX12_errors_49 rfl rfl (by decide) (by decide) (Nat.le_of_ble_eq_true rfl) (by decide) (by decide) rfl (c_likelyOf hT1 hk kk126 o2 rk (fw := false)) ?_
        refine pq4 ?_
        exact V_ireturn rfl ⟨by rw [ea]; first | (rw [if_pos (by omega)]; rfl) | (rw [if_neg (by omega)]; rfl), rfl, k0, KM.rf⟩ dX12_errors_52
      · refine V_al0n dX12_errors_29 ?_
        refine V_al0n dX12_errors_30 ?_
        refine V_getR kk104 (by decide) fl_X12_75 (fx_104_48 hρ) dX12_errors_31 ?_
        refine V_il1n dX12_errors_34 ?_
        refine V_iconst dX12_errors_35 ?_
        refine V_callV (as := [_, _, _]) ml_X12_606 im_X12_likelyOf se_X12_likelyOf kk104 (by decide) (by decide) dX12_errors_36 rfl rfl (by decide) (by decide) (Nat.le_of_ble_eq_true rfl) (by decide) (by decide) rfl (c_likelyOf hT1 hk kk125 o1 rk (fw := true)) ?_
        refine pq4 ?_
        refine V_goto (tgt := 52) dX12_errors_39 rfl ?_
        exact V_ireturn rfl ⟨by rw [ea]; first | (rw [if_pos (by omega)]; rfl) | (rw [if_neg (by omega)]; rfl), rfl, k0, KM.rf⟩ dX12_errors_52
    · refine V_iconst dX12_errors_23 ?_
      exact V_ireturn rfl ⟨by unfold aErrors; simp only [*]; simp, rfl, k0, KM.rf⟩ dX12_errors_24
/-- the first of the least -/
def ruS (T : TT) : Nat → Nat → Int × Int → Int × Int
  | 0, _, b => b
  | r + 1, k, b => ruS T r (k + 1) (if 0 ≤ b.2 ∧ b.2 ≤ missS T (k : Int) + wronS T (k : Int) then b else ((k : Int), missS T (k : Int) + wronS T (k : Int)))
theorem w_rule {T : TT} {Q : QT} {ρ : RT} {f : IT} {g : JT} (hρ : Fx ρ) (hT : MT T f) (hk : TOK T) {B : Int × Int} (hQ : Q (some (.int (iz B.1))) ρ f g) (k : Nat) (hkk : k ≤ 6) (b : Int × Int) (hb : -1 ≤ b.2 ∧ b.2 ≤ 200000000) (hB : B = ruS T (6 - k) k b) :
    V_X12_rule Q 11 [.ref 104, .int (iz b.1), .int (iz b.2), .int (iz (k : Int)), .null] [] ρ f g := by
  have h4 := hk.ju
  have o1 : ∀ j, j < nJu T → f 125 j = T 125 j ∧ 0 ≤ T 125 j ∧ T 125 j ≤ 100 := fun j hj => ⟨hT.at (n := 4) rfl (by omega), (hk.judge hj).1⟩
  have o2 : ∀ j, j < nJu T → f 126 j = T 126 j ∧ 0 ≤ T 126 j ∧ T 126 j ≤ 100 := fun j hj => ⟨hT.at (n := 4) rfl (by omega), (hk.judge hj).2⟩
  by_cases e : k = 6
  · subst e
    simp only [Nat.sub_self, ruS] at hB
    subst hB
    refine V_il3n dX12_rule_11 ?_
    refine V_bipush dX12_rule_12 rfl ?_
    refine V_icmp_ge (tgt := 64) dX12_rule_14 rfl (by first | assumption | (unfold ri at *; omega)) (by first | assumption | (unfold ri at *; omega)) (fun b14 => ?_) (fun b14 => ?_)
    · refine V_il1n dX12_rule_64 ?_
      exact V_ireturn rfl hQ dX12_rule_65
    · exfalso; omega
  · rw [show 6 - k = (6 - (k + 1)) + 1 by omega, ruS] at hB
    have hr := mw_rng hk (k : Int)
    have e1 : lkS (T 125) (nJu T) (k : Int) true (2 ^ nJu T) = missS T (k : Int) := rfl
    have e2 : lkS (T 126) (nJu T) (k : Int) false (2 ^ nJu T) = wronS T (k : Int) := rfl
    refine V_il3n dX12_rule_11 ?_
    refine V_bipush dX12_rule_12 rfl ?_
    refine V_icmp_ge (tgt := 64) dX12_rule_14 rfl (by first | assumption | (unfold ri at *; omega)) (by first | assumption | (unfold ri at *; omega)) (fun b14 => ?_) (fun b14 => ?_)
    · exfalso; omega
    · refine V_al0n dX12_rule_17 ?_
      refine V_al0n dX12_rule_18 ?_
      refine V_getR kk104 (by decide) fl_X12_75 (fx_104_48 hρ) dX12_rule_19 ?_
      refine V_il3n dX12_rule_22 ?_
      refine V_iconst dX12_rule_23 ?_
      refine V_callV (as := [_, _, _]) ml_X12_606 im_X12_likelyOf se_X12_likelyOf kk104 (by decide) (by decide) dX12_rule_24 rfl rfl (by decide) (by decide) (Nat.le_of_ble_eq_true rfl) (by decide) (by decide) rfl (c_likelyOf hT hk kk125 o1 (k := (k : Int)) (by unfold ri; omega) (fw := true)) ?_
      refine pq4 ?_
      refine V_al0n dX12_rule_27 ?_
      refine V_al0n dX12_rule_28 ?_
      refine V_getR kk104 (by decide) fl_X12_78 (fx_104_49 hρ) dX12_rule_29 ?_
      refine V_il3n dX12_rule_32 ?_
      refine V_iconst dX12_rule_33 ?_
      refine V_callV (as := [_, _, _]) ml_X12_606 im_X12_likelyOf se_X12_likelyOf kk104 (by decide) (by decide) dX12_rule_34 rfl rfl (by decide) (by decide) (Nat.le_of_ble_eq_true rfl) (by decide) (by decide) rfl (c_likelyOf hT hk kk126 o2 (k := (k : Int)) (by unfold ri; omega) (fw := false)) ?_
      refine pq4 ?_
      rw [e1, e2]
      refine V_iadd dX12_rule_37 ?_
      refine V_is4 dX12_rule_38 (by decide) rfl ?_
      refine V_il2n dX12_rule_40 ?_
      refine V_if_lt (tgt := 53) dX12_rule_41 rfl (by first | assumption | (unfold ri at *; omega)) (fun b41 => ?_) (fun b41 => ?_)
      · refine V_il4 dX12_rule_53 ?_
        refine V_is2n dX12_rule_55 (by decide) rfl ?_
        refine V_il3n dX12_rule_56 ?_
        refine V_is1n dX12_rule_57 (by decide) rfl ?_
        refine V_inc3 dX12_rule_58 (by decide) rfl ?_
        refine V_goto (tgt := 11) dX12_rule_61 rfl ?_
        rw [if_neg (by omega)] at hB
        exact V_weak (by repeat (first | exact wk_n | refine wk_c (Or.inr rfl) ?_ | refine wk_c (Or.inl rfl) ?_)) (w_rule hρ hT hk hQ (k + 1) (by omega) _ (by simp only; omega) hB)
      · refine V_il4 dX12_rule_44 ?_
        refine V_il2n dX12_rule_46 ?_
        refine V_icmp_lt (tgt := 53) dX12_rule_47 rfl (by first | assumption | (unfold ri at *; omega)) (by first | assumption | (unfold ri at *; omega)) (fun b47 => ?_) (fun b47 => ?_)
        · refine V_il4 dX12_rule_53 ?_
          refine V_is2n dX12_rule_55 (by decide) rfl ?_
          refine V_il3n dX12_rule_56 ?_
          refine V_is1n dX12_rule_57 (by decide) rfl ?_
          refine V_inc3 dX12_rule_58 (by decide) rfl ?_
          refine V_goto (tgt := 11) dX12_rule_61 rfl ?_
          rw [if_neg (by omega)] at hB
          exact V_weak (by repeat (first | exact wk_n | refine wk_c (Or.inr rfl) ?_ | refine wk_c (Or.inl rfl) ?_)) (w_rule hρ hT hk hQ (k + 1) (by omega) _ (by simp only; omega) hB)
        · refine V_goto (tgt := 58) dX12_rule_50 rfl ?_
          refine V_inc3 dX12_rule_58 (by decide) rfl ?_
          refine V_goto (tgt := 11) dX12_rule_61 rfl ?_
          rw [if_pos (by omega)] at hB
          exact V_weak (by repeat (first | exact wk_n | refine wk_c (Or.inr rfl) ?_ | refine wk_c (Or.inl rfl) ?_)) (w_rule hρ hT hk hQ (k + 1) (by omega) b hb hB)
termination_by 6 - k
def aRule (T : TT) : Int := (ruS T 6 0 (0, -1)).1
theorem c_mrule {T : TT} {ρ : RT} {f : IT} {g : JT} (hρ : Fx ρ) (hT : MT T f) (hk : TOK T) :
    C_X12_rule [.ref 104] ρ f g (fun r ρ' f' g' => r = some (.int (iz (aRule T))) ∧ ρ' = ρ ∧ KM f f' ∧ KM g g') := by
  have k0 : KM f (u2 f 104 2 0) := KM.u2 rfl KM.rf
  refine Ct.ofV (by decide) rfl (Nat.le_of_ble_eq_true rfl) ?_
  refine V_al0n dX12_rule_0 ?_
  refine V_iconst dX12_rule_1 ?_
  refine V_putI kk104 (by decide) fl_X12_154 rfl dX12_rule_2 ?_
  refine V_iconst dX12_rule_5 ?_
  refine V_is1n dX12_rule_6 (by decide) rfl ?_
  refine V_iconst dX12_rule_7 ?_
  refine V_is2n dX12_rule_8 (by decide) rfl ?_
  refine V_iconst dX12_rule_9 ?_
  refine V_is3n dX12_rule_10 (by decide) rfl ?_
  exact w_rule hρ (hT.km k0) hk (B := ruS T 6 0 (0, -1)) ⟨rfl, rfl, k0, KM.rf⟩ 0 (by omega) (0, -1) (by simp only; omega) rfl

