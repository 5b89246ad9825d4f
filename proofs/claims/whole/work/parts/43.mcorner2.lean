theorem iz_m1x : ∀ b : Nat, b < 32 → iz (b : Int) ^^^ iz (-1) = iz (-1 - (b : Int)) := by decide
theorem iz_sub32 : ∀ b : Nat, b < 32 → ∀ a : Nat, a < 32 → iz (a : Int) &&& iz (-1 - (b : Int)) = iz ((a &&& (31 ^^^ b) : Nat) : Int) := by decide
def sbJ (i so : Nat) : Bool := decide (i &&& (31 ^^^ so) = 0)
def reJ (n so : Nat) (J W : Nat → Int) (i : Nat) : Bool := sbJ i so && rsJ n (so : Int) J W i
/-- the wanted one, or how many -/
def rsA (R : Nat → Bool) (wa : Int) : Nat → Nat → Nat → Int
  | 0, _, n => if wa < 0 then (n : Int) else -2
  | r + 1, i, n => if R i = true then (if (n : Int) = wa then (i : Int) else rsA R wa r (i + 1) (n + 1)) else rsA R wa r (i + 1) n
def JWK (T : TT) (so : Int) (J W : Nat → Int) (f : IT) : Prop := ∀ m, m < nMe T → so / 2 ^ m % 2 = 1 → f 145 m = J m ∧ f 146 m = W m ∧ (0 ≤ J m ∧ J m ≤ 999) ∧ (0 ≤ W m ∧ W m ≤ 999)
theorem w_restAt {T : TT} {Q : QT} {ρ : RT} {f : IT} {g : JT} (hρ : Fx ρ) (hT : MT T f) (hk : TOK T) {so : Nat} (hso : so < 32) {J W : Nat → Int} (hJ : JWK T (so : Int) J W f) {k : Nat} {wa : Int} (rw_ : ri wa) {A : Int} (hQ : Q (some (.int (iz A))) ρ f g)
    (i : Nat) (hi : i ≤ so + 1) (n : Nat) (hn : n ≤ i) (hA : A = rsA (reJ (nMe T) so J W) wa (so + 1 - i) i n) :
    V_X12_restAt Q 12 [.ref 104, .int (iz (so : Int)), .int (iz (k : Int)), .int (iz wa), .int (iz (n : Int)), .int (iz (i : Int))] [] ρ f g := by
  by_cases e : i = so + 1
  · subst e
    simp only [Nat.sub_self, rsA] at hA
    subst hA
    refine V_il5 dX12_restAt_12 ?_
    refine V_il1n dX12_restAt_14 ?_
    refine V_icmp_gt (tgt := 58) dX12_restAt_15 rfl (by first | assumption | (unfold ri at *; omega)) (by first | assumption | (unfold ri at *; omega)) (fun b15 => ?_) (fun b15 => ?_)
    · refine V_il3n dX12_restAt_58 ?_
      refine V_if_ge (tgt := 67) dX12_restAt_59 rfl (by first | assumption | (unfold ri at *; omega)) (fun b59 => ?_) (fun b59 => ?_)
      · refine V_bipush dX12_restAt_67 rfl ?_
        exact V_ireturn rfl (by first | (rw [if_neg (by omega)] at hQ; exact hQ) | (rw [if_pos (by omega)] at hQ; exact hQ)) dX12_restAt_69
      · refine V_il4 dX12_restAt_62 ?_
        refine V_goto (tgt := 69) dX12_restAt_64 rfl ?_
        exact V_ireturn rfl (by first | (rw [if_neg (by omega)] at hQ; exact hQ) | (rw [if_pos (by omega)] at hQ; exact hQ)) dX12_restAt_69
    · exfalso; omega
  · rw [show so + 1 - i = (so + 1 - (i + 1)) + 1 by omega, rsA] at hA
    have ha := Nat.and_le_left (n := i) (m := 31 ^^^ so)
    refine V_il5 dX12_restAt_12 ?_
    refine V_il1n dX12_restAt_14 ?_
    refine V_icmp_gt (tgt := 58) dX12_restAt_15 rfl (by first | assumption | (unfold ri at *; omega)) (by first | assumption | (unfold ri at *; omega)) (fun b15 => ?_) (fun b15 => ?_)
    · exfalso; omega
    · refine V_il5 dX12_restAt_18 ?_
      refine V_il1n dX12_restAt_20 ?_
      refine V_iconst dX12_restAt_21 ?_
      refine V_ixor dX12_restAt_22 (iz_m1x so hso) ?_
      refine V_iand dX12_restAt_23 (iz_sub32 so hso i (by omega)) ?_
      refine V_if_ne (tgt := 52) dX12_restAt_24 rfl (by first | assumption | (unfold ri at *; omega)) (fun b24 => ?_) (fun b24 => ?_)
      · have hz : reJ (nMe T) so J W i = false := by unfold reJ sbJ; rw [decide_eq_false (show ¬ (i &&& (31 ^^^ so)) = 0 by omega)]; rfl
        refine V_inc5 dX12_restAt_52 (by decide) rfl ?_
        refine V_goto (tgt := 12) dX12_restAt_55 rfl ?_
        rw [if_neg (by rw [hz]; exact Bool.false_ne_true)] at hA
        exact w_restAt hρ hT hk hso hJ rw_ hQ (i + 1) (by omega) n (by omega) hA
      · have hz0 : sbJ i so = true := by unfold sbJ; exact decide_eq_true (by omega)
        refine V_al0n dX12_restAt_27 ?_
        refine V_il1n dX12_restAt_28 ?_
        refine V_il5 dX12_restAt_29 ?_
        refine V_callV (as := [_, _]) ml_X12_588 im_X12_isRest se_X12_isRest kk104 (by decide) (by decide) dX12_restAt_31 rfl rfl (by decide) (by decide) (Nat.le_of_ble_eq_true rfl) (by decide) (by decide) rfl (c_isRest hρ hT hk (by unfold ri; omega) hJ (i := i) (by omega)) ?_
        refine pq4 ?_
        refine V_bf (tgt := 40) dX12_restAt_34 rfl (fun b34 => ?_) (fun b34 => ?_)
        · have hz : reJ (nMe T) so J W i = true := by unfold reJ; rw [b34, hz0]; rfl
          refine V_il4 dX12_restAt_40 ?_
          refine V_il3n dX12_restAt_42 ?_
          refine V_icmp_ne (tgt := 49) dX12_restAt_43 rfl (by first | assumption | (unfold ri at *; omega)) (by first | assumption | (unfold ri at *; omega)) (fun b43 => ?_) (fun b43 => ?_)
          · refine V_inc4 dX12_restAt_49 (by decide) rfl ?_
            refine V_inc5 dX12_restAt_52 (by decide) rfl ?_
            refine V_goto (tgt := 12) dX12_restAt_55 rfl ?_
            rw [if_pos hz, if_neg b43] at hA
            exact w_restAt hρ hT hk hso hJ rw_ hQ (i + 1) (by omega) (n + 1) (by omega) hA
          · refine V_il5 dX12_restAt_46 ?_
            exact V_ireturn rfl (by rw [if_pos hz, if_pos b43] at hA; subst hA; exact hQ) dX12_restAt_48
        · have hz : reJ (nMe T) so J W i = false := by unfold reJ; rw [b34]; simp
          refine V_goto (tgt := 52) dX12_restAt_37 rfl ?_
          refine V_inc5 dX12_restAt_52 (by decide) rfl ?_
          refine V_goto (tgt := 12) dX12_restAt_55 rfl ?_
          rw [if_neg (by rw [hz]; exact Bool.false_ne_true)] at hA
          exact w_restAt hρ hT hk hso hJ rw_ hQ (i + 1) (by omega) n (by omega) hA
termination_by so + 1 - i
theorem jmS_rng {T : TT} {ra : Bool} {sk : Int} {k m : Nat} : (0 ≤ jmS T ra sk k m ∧ jmS T ra sk k m ≤ 999) ∧ (0 ≤ wdS T ra sk k m ∧ wdS T ra sk k m ≤ 999) := ⟨bl_rng (by omega) (by omega), bl_rng (by omega) (by omega)⟩
theorem c_restAt {T : TT} {ρ : RT} {f : IT} {g : JT} (hρ : Fx ρ) (hT : MT T f) (hk : TOK T) {sk : Int} {ra : Bool} (hs : f 104 67 = sk) (hsk : 0 ≤ sk ∧ sk ≤ 30) (hr : f 104 68 = bz ra) {so : Nat} (hso : so < 32) {k : Nat} (hkl : k < nLa T) {wa : Int} (rw_ : ri wa) :
    C_X12_restAt [.ref 104, .int (iz (so : Int)), .int (iz (k : Int)), .int (iz wa)] ρ f g (fun r ρ' f' g' => r = some (.int (iz (rsA (reJ (nMe T) so (jmS T ra sk k) (wdS T ra sk k)) wa (so + 1) 0 0))) ∧ ρ' = ρ ∧ KM f f' ∧ KM g g') := by
  refine Ct.ofV (by decide) rfl (Nat.le_of_ble_eq_true rfl) ?_
  refine V_al0n dX12_restAt_0 ?_
  refine V_il1n dX12_restAt_1 ?_
  refine V_il2n dX12_restAt_2 ?_
  refine V_callV (as := [_, _]) ml_X12_585 im_X12_layCorner se_X12_layCorner kk104 (by decide) (by decide) dX12_restAt_3 rfl rfl (by decide) (by decide) (Nat.le_of_ble_eq_true rfl) (by decide) (by decide) rfl (c_layCorner hρ hT hk hs hsk hr (by unfold ri; omega) hkl) ?_
  rintro r3 ρ3 f3 g3 ⟨rfl, s3_0, kc, kg, hj⟩
  obtain rfl := s3_0.symm
  refine V_iconst dX12_restAt_6 ?_
  refine V_is4 dX12_restAt_7 (by decide) rfl ?_
  refine V_iconst dX12_restAt_9 ?_
  refine V_is5 dX12_restAt_10 (by decide) rfl ?_
  exact w_restAt hρ (hT.km kc.km) hk hso (J := jmS T ra sk k) (W := wdS T ra sk k) (fun m hm hb => ⟨(hj m hm hb).1, (hj m hm hb).2, jmS_rng⟩) rw_ (by exact ⟨rfl, rfl, kc.km, kg.km⟩) 0 (by omega) 0 (by omega) rfl
def aRest (T : TT) (ra : Bool) (sk so k wa : Int) : Int := rsA (reJ (nMe T) so.toNat (jmS T ra sk k.toNat) (wdS T ra sk k.toNat)) wa (so.toNat + 1) 0 0
theorem corn_at {T : TT} (hk : TOK T) {so k : Int} (h : cornO T so k = true) : (0 < so ∧ so < 32) ∧ (0 ≤ k ∧ k < (nLa T : Int)) ∧ so < 2 ^ nMe T ∧ T 110 k.toNat = 1 := by
  have h5 := hk.me
  unfold cornO okL at h
  simp only [Bool.and_eq_true, decide_eq_true_eq] at h
  have h2 : (2 : Int) ^ nMe T ≤ 32 := by rcases (show nMe T = 0 ∨ nMe T = 1 ∨ nMe T = 2 ∨ nMe T = 3 ∨ nMe T = 4 ∨ nMe T = 5 by omega) with q | q | q | q | q | q <;> rw [q] <;> decide
  omega
theorem c_mrests {T : TT} {ρ : RT} {f : IT} {g : JT} (hρ : Fx ρ) (hT : MT T f) (hk : TOK T) {sk : Int} {ra : Bool} (hs : f 104 67 = sk) (hsk : 0 ≤ sk ∧ sk ≤ 30) (hr : f 104 68 = bz ra) {so k : Int} (rs : ri so) (rk : ri k) :
    C_X12_rests [.ref 104, .int (iz so), .int (iz k)] ρ f g (fun r ρ' f' g' => r = some (.int (iz (if cornO T so k = true then aRest T ra sk so k (-1) else -1))) ∧ ρ' = ρ ∧ KM f f' ∧ KM g g') := by
  have k0 : KM f (u2 f 104 2 0) := KM.u2 rfl KM.rf
  have hT1 : MT T (u2 f 104 2 0) := hT.km k0
  refine Ct.ofV (by decide) rfl (Nat.le_of_ble_eq_true rfl) ?_
  refine V_al0n dX12_rests_0 ?_
  refine V_iconst dX12_rests_1 ?_
  refine V_putI kk104 (by decide) fl_X12_154 rfl dX12_rests_2 ?_
  refine V_al0n dX12_rests_5 ?_
  refine V_il1n dX12_rests_6 ?_
  refine V_il2n dX12_rests_7 ?_
  refine V_callV (as := [_, _]) ml_X12_591 im_X12_isCorner se_X12_isCorner kk104 (by decide) (by decide) dX12_rests_8 rfl rfl (by decide) (by decide) (Nat.le_of_ble_eq_true rfl) (by decide) (by decide) rfl (c_isCorner hρ hT1 hk rs rk) ?_
  refine pq4 ?_
  refine V_bt (tgt := 24) dX12_rests_11 rfl (fun b11 => ?_) (fun b11 => ?_)
  · have kk := k0
    have kg : KM g g := KM.rf
    have ea : (if cornO T so k = true then aRest T ra sk so k (-1) else -1) = -1 := by rw [b11]; rfl
    refine V_iconst dX12_rests_24 ?_
    exact V_ireturn rfl ⟨by rw [ea], rfl, kk, kg⟩ dX12_rests_25
  · have hc := corn_at hk b11
    obtain ⟨sN, rfl⟩ : ∃ n : Nat, so = n := ⟨so.toNat, by omega⟩
    obtain ⟨kN, rfl⟩ : ∃ n : Nat, k = n := ⟨k.toNat, by omega⟩
    refine V_al0n dX12_rests_14 ?_
    refine V_il1n dX12_rests_15 ?_
    refine V_il2n dX12_rests_16 ?_
    refine V_iconst dX12_rests_17 ?_
    refine V_callV (as := [_, _, _]) ml_X12_594 im_X12_restAt se_X12_restAt kk104 (by decide) (by decide) dX12_rests_18 rfl rfl (by decide) (by decide) (Nat.le_of_ble_eq_true rfl) (by decide) (by decide) rfl (c_restAt hρ hT1 hk (u2_n (by omega) hs) hsk (u2_n (by omega) hr) (so := sN) (by omega) (k := kN) (by omega) (wa := -1) (by unfold ri; omega)) ?_
    rintro r18 ρ18 f18 g18 ⟨rfl, s18_0, k18, kg⟩
    obtain rfl := s18_0.symm
    have kk := k0.tr k18
    have ea : (if cornO T (sN : Int) (kN : Int) = true then aRest T ra sk (sN : Int) (kN : Int) (-1) else -1) = rsA (reJ (nMe T) sN (jmS T ra sk kN) (wdS T ra sk kN)) (-1) (sN + 1) 0 0 := by rw [b11, if_pos rfl]; unfold aRest; simp only [Int.toNat_natCast]
    refine V_goto (tgt := 25) dX12_rests_21 rfl ?_
    exact V_ireturn rfl ⟨by rw [ea], rfl, kk, kg⟩ dX12_rests_25
theorem c_mrest {T : TT} {ρ : RT} {f : IT} {g : JT} (hρ : Fx ρ) (hT : MT T f) (hk : TOK T) {sk : Int} {ra : Bool} (hs : f 104 67 = sk) (hsk : 0 ≤ sk ∧ sk ≤ 30) (hr : f 104 68 = bz ra) {so k wa : Int} (rs : ri so) (rk : ri k) (rw_ : ri wa) :
    C_X12_rest [.ref 104, .int (iz so), .int (iz k), .int (iz wa)] ρ f g (fun r ρ' f' g' => r = some (.int (iz (if (cornO T so k && decide (0 ≤ wa)) = true then aRest T ra sk so k wa else -1))) ∧ ρ' = ρ ∧ KM f f' ∧ KM g g') := by
  have k0 : KM f (u2 f 104 2 0) := KM.u2 rfl KM.rf
  have hT1 : MT T (u2 f 104 2 0) := hT.km k0
  refine Ct.ofV (by decide) rfl (Nat.le_of_ble_eq_true rfl) ?_
  refine V_al0n dX12_rest_0 ?_
  refine V_iconst dX12_rest_1 ?_
  refine V_putI kk104 (by decide) fl_X12_154 rfl dX12_rest_2 ?_
  refine V_al0n dX12_rest_5 ?_
  refine V_il1n dX12_rest_6 ?_
  refine V_il2n dX12_rest_7 ?_
  refine V_callV (as := [_, _]) ml_X12_591 im_X12_isCorner se_X12_isCorner kk104 (by decide) (by decide) dX12_rest_8 rfl rfl (by decide) (by decide) (Nat.le_of_ble_eq_true rfl) (by decide) (by decide) rfl (c_isCorner hρ hT1 hk rs rk) ?_
  refine pq4 ?_
  refine V_bt (tgt := 28) dX12_rest_11 rfl (fun b11 => ?_) (fun b11 => ?_)
  · have kk := k0
    have kg : KM g g := KM.rf
    have ea : (if (cornO T so k && decide (0 ≤ wa)) = true then aRest T ra sk so k wa else -1) = -1 := by rw [b11]; rfl
    refine V_iconst dX12_rest_28 ?_
    exact V_ireturn rfl ⟨by rw [ea], rfl, kk, kg⟩ dX12_rest_29
  · refine V_il3n dX12_rest_14 ?_
    refine V_if_lt (tgt := 28) dX12_rest_15 rfl (by first | assumption | (unfold ri at *; omega)) (fun b15 => ?_) (fun b15 => ?_)
    · have kk := k0
      have kg : KM g g := KM.rf
      have ea : (if (cornO T so k && decide (0 ≤ wa)) = true then aRest T ra sk so k wa else -1) = -1 := by rw [decide_eq_false (show ¬ 0 ≤ wa by omega)]; simp
      refine V_iconst dX12_rest_28 ?_
      exact V_ireturn rfl ⟨by rw [ea], rfl, kk, kg⟩ dX12_rest_29
    · have hc := corn_at hk b11
      obtain ⟨sN, rfl⟩ : ∃ n : Nat, so = n := ⟨so.toNat, by omega⟩
      obtain ⟨kN, rfl⟩ : ∃ n : Nat, k = n := ⟨k.toNat, by omega⟩
      refine V_al0n dX12_rest_18 ?_
      refine V_il1n dX12_rest_19 ?_
      refine V_il2n dX12_rest_20 ?_
      refine V_il3n dX12_rest_21 ?_
      refine V_callV (as := [_, _, _]) ml_X12_594 im_X12_restAt se_X12_restAt kk104 (by decide) (by decide) dX12_rest_22 rfl rfl (by decide) (by decide) (Nat.le_of_ble_eq_true rfl) (by decide) (by decide) rfl (c_restAt hρ hT1 hk (u2_n (by omega) hs) hsk (u2_n (by omega) hr) (so := sN) (by omega) (k := kN) (by omega) rw_) ?_
      rintro r22 ρ22 f22 g22 ⟨rfl, s22_0, k22, kg⟩
      obtain rfl := s22_0.symm
      have kk := k0.tr k22
      have ea : (if (cornO T (sN : Int) (kN : Int) && decide (0 ≤ wa)) = true then aRest T ra sk (sN : Int) (kN : Int) wa else -1) = rsA (reJ (nMe T) sN (jmS T ra sk kN) (wdS T ra sk kN)) wa (sN + 1) 0 0 := by rw [b11, decide_eq_true (show 0 ≤ wa by omega)]; unfold aRest; simp
      refine V_goto (tgt := 29) dX12_rest_25 rfl ?_
      exact V_ireturn rfl ⟨by rw [ea], rfl, kk, kg⟩ dX12_rest_29
def smJ (n : Nat) (so : Int) (J W : Nat → Int) (i : Int) : Int := sumTo (fun m => if so / 2 ^ m % 2 = 1 then lsJ J W m i else 0) n
/-- the least sum and who is inside -/
def crJ (n so : Nat) (J W : Nat → Int) : Nat → Nat → Int × Int → Int × Int
  | 0, _, b => b
  | r + 1, i, b => crJ n so J W r (i + 1) (if sbJ i so = true then (if 0 ≤ b.1 ∧ b.2 ≤ smJ n (so : Int) J W (i : Int) then b else ((i : Int), smJ n (so : Int) J W (i : Int))) else b)
theorem smJ_rng {n : Nat} {so : Int} {J W : Nat → Int} {i : Int} (hn : n ≤ 5) (h : ∀ m, m < n → so / 2 ^ m % 2 = 1 → (0 ≤ J m ∧ J m ≤ 999) ∧ (0 ≤ W m ∧ W m ≤ 999)) : ∀ k, k ≤ n → -999 * (k : Int) ≤ sumTo (fun m => if so / 2 ^ m % 2 = 1 then lsJ J W m i else 0) k ∧ sumTo (fun m => if so / 2 ^ m % 2 = 1 then lsJ J W m i else 0) k ≤ 3996 * (k : Int)
  | 0, _ => by simp [sumTo]
  | k + 1, hk => by
    have h1 := smJ_rng (i := i) hn h k (by omega)
    simp only [sumTo]
    split
    · rename_i hb
      have := lsJ_ri (i := i) (h k (by omega) hb)
      omega
    · omega
theorem w_cor64 {T : TT} {Q : QT} {ρ : RT} {f : IT} {g : JT} (hρ : Fx ρ) (hT : MT T f) (hk : TOK T) {so : Nat} (hso : so < 32) {J W : Nat → Int} (hJ : JWK T (so : Int) J W f) {k wa a4 a5 : Int} {i : Nat} (hi : i < 32)
    (hX : V_X12_corner Q 105 [.ref 104, .int (iz (so : Int)), .int (iz k), .int (iz wa), .int (iz a4), .int (iz a5), .int (iz (i : Int)), .int (iz (smJ (nMe T) (so : Int) J W (i : Int))), .null] [] ρ f g)
    (m : Nat) (hm : m ≤ nMe T) : V_X12_corner Q 64 [.ref 104, .int (iz (so : Int)), .int (iz k), .int (iz wa), .int (iz a4), .int (iz a5), .int (iz (i : Int)), .int (iz (sumTo (fun m => if (so : Int) / 2 ^ m % 2 = 1 then lsJ J W m (i : Int) else 0) m)), .int (iz (m : Int))] [] ρ f g := by
  have h5 := hk.me
  by_cases e : m = nMe T
  · subst e
    refine V_il8 dX12_corner_64 ?_
    refine V_al0n dX12_corner_66 ?_
    refine V_getI kk104 (by decide) fl_X12_253 ((hT 104 13 rfl).trans h5.1) dX12_corner_67 ?_
    refine V_icmp_ge (tgt := 105) dX12_corner_70 rfl (by first | assumption | (unfold ri at *; omega)) (by first | assumption | (unfold ri at *; omega)) (fun b70 => ?_) (fun b70 => ?_)
    · exact V_weak (by repeat (first | exact wk_n | refine wk_c (Or.inr rfl) ?_ | refine wk_c (Or.inl rfl) ?_)) hX
    · exfalso; omega
  · have hx := w_cor64 hρ hT hk hso hJ hi hX (m + 1) (by omega)
    simp only [sumTo] at hx
    refine V_il8 dX12_corner_64 ?_
    refine V_al0n dX12_corner_66 ?_
    refine V_getI kk104 (by decide) fl_X12_253 ((hT 104 13 rfl).trans h5.1) dX12_corner_67 ?_
    refine V_icmp_ge (tgt := 105) dX12_corner_70 rfl (by first | assumption | (unfold ri at *; omega)) (by first | assumption | (unfold ri at *; omega)) (fun b70 => ?_) (fun b70 => ?_)
    · exfalso; omega
    · refine V_il7 dX12_corner_73 ?_
      refine V_il1n dX12_corner_75 ?_
      refine V_il8 dX12_corner_76 ?_
      refine V_callS (as := [_, _]) ml_X12_573 sm_X12_isOf dX12_corner_78 rfl rfl (by decide) (by decide) (Nat.le_of_ble_eq_true rfl) (by decide) (by decide) rfl (c_isOf (a := (so : Int)) (by unfold ri; omega) (by omega : m < 32)) ?_
      refine pq4 ?_
      refine V_bt (tgt := 95) dX12_corner_81 rfl (fun b81 => ?_) (fun b81 => ?_)
      · simp only [decide_eq_false_iff_not] at b81
        rw [if_neg b81] at hx
        refine V_iconst dX12_corner_95 ?_
        refine V_iadd dX12_corner_96 ?_
        refine V_is7 dX12_corner_97 (by decide) rfl ?_
        refine V_inc8 dX12_corner_99 (by decide) rfl ?_
        refine V_goto (tgt := 64) dX12_corner_102 rfl ?_
        exact hx
      · simp only [decide_eq_true_eq] at b81
        rw [if_pos b81] at hx
        obtain ⟨j1, j2, j3, j4⟩ := hJ m (by omega) b81
        refine V_al0n dX12_corner_84 ?_
        refine V_il8 dX12_corner_85 ?_
        refine V_il6 dX12_corner_87 ?_
        refine V_callV (as := [_, _]) ml_X12_582 im_X12_lossOf se_X12_lossOf kk104 (by decide) (by decide) dX12_corner_89 rfl rfl (by decide) (by decide) (Nat.le_of_ble_eq_true rfl) (by decide) (by decide) rfl (c_lossOf hρ (J := J) (W := W) (m := m) (by omega) (i := (i : Int)) (by unfold ri; omega) j1 j2) ?_
        refine pq4 ?_
        refine V_goto (tgt := 96) dX12_corner_92 rfl ?_
        refine V_iadd dX12_corner_96 ?_
        refine V_is7 dX12_corner_97 (by decide) rfl ?_
        refine V_inc8 dX12_corner_99 (by decide) rfl ?_
        refine V_goto (tgt := 64) dX12_corner_102 rfl ?_
        exact hx
termination_by nMe T - m
theorem w_cor40 {T : TT} {Q : QT} {ρ : RT} {f : IT} {g : JT} (hρ : Fx ρ) (hT : MT T f) (hk : TOK T) {so : Nat} (hso : so < 32) {J W : Nat → Int} (hJ : JWK T (so : Int) J W f) {k wa : Int} (rw_ : ri wa) {B : Int × Int} (hQ : Q (some (.int (iz (if wa = 0 then B.2 else B.1)))) ρ f g)
    (i : Nat) (hi : i ≤ so + 1) (b : Int × Int) (hb : (-1 ≤ b.1 ∧ b.1 ≤ 32) ∧ (-4995 ≤ b.2 ∧ b.2 ≤ 19980)) (hB : B = crJ (nMe T) so J W (so + 1 - i) i b) :
    V_X12_corner Q 40 [.ref 104, .int (iz (so : Int)), .int (iz k), .int (iz wa), .int (iz b.1), .int (iz b.2), .int (iz (i : Int)), .null, .null] [] ρ f g := by
  have h5 := hk.me
  by_cases e : i = so + 1
  · subst e
    simp only [Nat.sub_self, crJ] at hB
    subst hB
    refine V_il6 dX12_corner_40 ?_
    refine V_il1n dX12_corner_42 ?_
    refine V_icmp_gt (tgt := 134) dX12_corner_43 rfl (by first | assumption | (unfold ri at *; omega)) (by first | assumption | (unfold ri at *; omega)) (fun b43 => ?_) (fun b43 => ?_)
    · refine V_il3n dX12_corner_134 ?_
      refine V_if_ne (tgt := 143) dX12_corner_135 rfl (by first | assumption | (unfold ri at *; omega)) (fun b135 => ?_) (fun b135 => ?_)
      · refine V_il4 dX12_corner_143 ?_
        exact V_ireturn rfl (by first | (rw [if_neg (by omega)] at hQ; exact hQ) | (rw [if_pos (by omega)] at hQ; exact hQ)) dX12_corner_145
      · refine V_il5 dX12_corner_138 ?_
        refine V_goto (tgt := 145) dX12_corner_140 rfl ?_
        exact V_ireturn rfl (by first | (rw [if_neg (by omega)] at hQ; exact hQ) | (rw [if_pos (by omega)] at hQ; exact hQ)) dX12_corner_145
    · exfalso; omega
  · rw [show so + 1 - i = (so + 1 - (i + 1)) + 1 by omega, crJ] at hB
    have ha := Nat.and_le_left (n := i) (m := 31 ^^^ so)
    have hsm := smJ_rng (i := (i : Int)) h5.2 (fun m hm hh => (hJ m hm hh).2.2) (nMe T) (by omega)
    have hX : sbJ i so = true → V_X12_corner Q 105 [.ref 104, .int (iz (so : Int)), .int (iz k), .int (iz wa), .int (iz b.1), .int (iz b.2), .int (iz (i : Int)), .int (iz (smJ (nMe T) (so : Int) J W (i : Int))), .null] [] ρ f g := by
      intro hz
      rw [if_pos hz] at hB
      change -999 * (nMe T : Int) ≤ smJ (nMe T) (so : Int) J W (i : Int) ∧ smJ (nMe T) (so : Int) J W (i : Int) ≤ 3996 * (nMe T : Int) at hsm
      generalize smJ (nMe T) (so : Int) J W (i : Int) = S at *
      refine V_il4 dX12_corner_105 ?_
      refine V_if_lt (tgt := 120) dX12_corner_107 rfl (by first | assumption | (unfold ri at *; omega)) (fun b107 => ?_) (fun b107 => ?_)
      · refine V_il6 dX12_corner_120 ?_
        refine V_is4 dX12_corner_122 (by decide) rfl ?_
        refine V_il7 dX12_corner_124 ?_
        refine V_is5 dX12_corner_126 (by decide) rfl ?_
        refine V_inc6 dX12_corner_128 (by decide) rfl ?_
        refine V_goto (tgt := 40) dX12_corner_131 rfl ?_
        rw [if_neg (by omega)] at hB
        exact V_weak (by repeat (first | exact wk_n | refine wk_c (Or.inr rfl) ?_ | refine wk_c (Or.inl rfl) ?_)) (w_cor40 hρ hT hk hso hJ rw_ hQ (i + 1) (by omega) _ (by simp only; omega) hB)
      · refine V_il7 dX12_corner_110 ?_
        refine V_il5 dX12_corner_112 ?_
        refine V_icmp_lt (tgt := 120) dX12_corner_114 rfl (by first | assumption | (unfold ri at *; omega)) (by first | assumption | (unfold ri at *; omega)) (fun b114 => ?_) (fun b114 => ?_)
        · refine V_il6 dX12_corner_120 ?_
          refine V_is4 dX12_corner_122 (by decide) rfl ?_
          refine V_il7 dX12_corner_124 ?_
          refine V_is5 dX12_corner_126 (by decide) rfl ?_
          refine V_inc6 dX12_corner_128 (by decide) rfl ?_
          refine V_goto (tgt := 40) dX12_corner_131 rfl ?_
          rw [if_neg (by omega)] at hB
          exact V_weak (by repeat (first | exact wk_n | refine wk_c (Or.inr rfl) ?_ | refine wk_c (Or.inl rfl) ?_)) (w_cor40 hρ hT hk hso hJ rw_ hQ (i + 1) (by omega) _ (by simp only; omega) hB)
        · refine V_goto (tgt := 128) dX12_corner_117 rfl ?_
          refine V_inc6 dX12_corner_128 (by decide) rfl ?_
          refine V_goto (tgt := 40) dX12_corner_131 rfl ?_
          rw [if_pos (by omega)] at hB
          exact V_weak (by repeat (first | exact wk_n | refine wk_c (Or.inr rfl) ?_ | refine wk_c (Or.inl rfl) ?_)) (w_cor40 hρ hT hk hso hJ rw_ hQ (i + 1) (by omega) b hb hB)
    refine V_il6 dX12_corner_40 ?_
    refine V_il1n dX12_corner_42 ?_
    refine V_icmp_gt (tgt := 134) dX12_corner_43 rfl (by first | assumption | (unfold ri at *; omega)) (by first | assumption | (unfold ri at *; omega)) (fun b43 => ?_) (fun b43 => ?_)
    · exfalso; omega
    · refine V_il6 dX12_corner_46 ?_
      refine V_il1n dX12_corner_48 ?_
      refine V_iconst dX12_corner_49 ?_
      refine V_ixor dX12_corner_50 (iz_m1x so hso) ?_
      refine V_iand dX12_corner_51 (iz_sub32 so hso i (by omega)) ?_
      refine V_if_eq (tgt := 58) dX12_corner_52 rfl (by first | assumption | (unfold ri at *; omega)) (fun b52 => ?_) (fun b52 => ?_)
      · have hz : sbJ i so = true := by unfold sbJ; exact decide_eq_true (by omega)
        refine V_iconst dX12_corner_58 ?_
        refine V_is7 dX12_corner_59 (by decide) rfl ?_
        refine V_iconst dX12_corner_61 ?_
        refine V_is8 dX12_corner_62 (by decide) rfl ?_
        exact w_cor64 hρ hT hk hso hJ (by omega) (hX hz) 0 (by omega)
      · have hz : sbJ i so = false := by unfold sbJ; exact decide_eq_false (by omega)
        refine V_goto (tgt := 128) dX12_corner_55 rfl ?_
        refine V_inc6 dX12_corner_128 (by decide) rfl ?_
        refine V_goto (tgt := 40) dX12_corner_131 rfl ?_
        rw [if_neg (by rw [hz]; exact Bool.false_ne_true)] at hB
        exact V_weak (by repeat (first | exact wk_n | refine wk_c (Or.inr rfl) ?_ | refine wk_c (Or.inl rfl) ?_)) (w_cor40 hρ hT hk hso hJ rw_ hQ (i + 1) (by omega) b hb hB)
termination_by so + 1 - i
def aCorn (T : TT) (ra : Bool) (sk so k : Int) : Int × Int := crJ (nMe T) so.toNat (jmS T ra sk k.toNat) (wdS T ra sk k.toNat) (so.toNat + 1) 0 (-1, 0)
def aCorner (T : TT) (ra : Bool) (sk so k w : Int) : Int := if (cornO T so k && zin w 0 1) = true then (if w = 0 then (aCorn T ra sk so k).2 else (aCorn T ra sk so k).1) else -1
theorem c_mcorner {T : TT} {ρ : RT} {f : IT} {g : JT} (hρ : Fx ρ) (hT : MT T f) (hk : TOK T) {sk : Int} {ra : Bool} (hs : f 104 67 = sk) (hsk : 0 ≤ sk ∧ sk ≤ 30) (hr : f 104 68 = bz ra) {so k w : Int} (rs : ri so) (rk : ri k) (rw_ : ri w) :
    C_X12_corner [.ref 104, .int (iz so), .int (iz k), .int (iz w)] ρ f g (fun r ρ' f' g' => r = some (.int (iz (aCorner T ra sk so k w))) ∧ ρ' = ρ ∧ KM f f' ∧ KM g g') := by
  have k0 : KM f (u2 f 104 2 0) := KM.u2 rfl KM.rf
  have hT1 : MT T (u2 f 104 2 0) := hT.km k0
  refine Ct.ofV (by decide) rfl (Nat.le_of_ble_eq_true rfl) ?_
  refine V_al0n dX12_corner_0 ?_
  refine V_iconst dX12_corner_1 ?_
  refine V_putI kk104 (by decide) fl_X12_154 rfl dX12_corner_2 ?_
  refine V_al0n dX12_corner_5 ?_
  refine V_il1n dX12_corner_6 ?_
  refine V_il2n dX12_corner_7 ?_
  refine V_callV (as := [_, _]) ml_X12_591 im_X12_isCorner se_X12_isCorner kk104 (by decide) (by decide) dX12_corner_8 rfl rfl (by decide) (by decide) (Nat.le_of_ble_eq_true rfl) (by decide) (by decide) rfl (c_isCorner hρ hT1 hk rs rk) ?_
  refine pq4 ?_
  refine V_bt (tgt := 23) dX12_corner_11 rfl (fun b11 => ?_) (fun b11 => ?_)
  · refine V_iconst dX12_corner_23 ?_
    exact V_ireturn rfl ⟨by unfold aCorner; simp only [*]; simp, rfl, k0, KM.rf⟩ dX12_corner_24
  · refine V_il3n dX12_corner_14 ?_
    refine V_iconst dX12_corner_15 ?_
    refine V_iconst dX12_corner_16 ?_
    refine V_callS (as := [_, _, _]) ml_X12_199 sm_X12_isIn dX12_corner_17 rfl rfl (by decide) (by decide) (Nat.le_of_ble_eq_true rfl) (by decide) (by decide) rfl (c_isIn rw_ (by unfold ri; omega) (by unfold ri; omega)) ?_
    refine pq4 ?_
    refine V_bf (tgt := 25) dX12_corner_20 rfl (fun b20 => ?_) (fun b20 => ?_)
    · have hc := corn_at hk b11
      obtain ⟨sN, rfl⟩ : ∃ n : Nat, so = n := ⟨so.toNat, by omega⟩
      obtain ⟨kN, rfl⟩ : ∃ n : Nat, k = n := ⟨k.toNat, by omega⟩
      have ea : aCorner T ra sk (sN : Int) (kN : Int) w = (if w = 0 then (aCorn T ra sk (sN : Int) (kN : Int)).2 else (aCorn T ra sk (sN : Int) (kN : Int)).1) := by unfold aCorner; simp only [b11, b20]; simp
      refine V_al0n dX12_corner_25 ?_
      refine V_il1n dX12_corner_26 ?_
      refine V_il2n dX12_corner_27 ?_
      refine V_callV (as := [_, _]) ml_X12_585 im_X12_layCorner se_X12_layCorner kk104 (by decide) (by decide) dX12_corner_28 rfl rfl (by decide) (by decide) (Nat.le_of_ble_eq_true rfl) (by decide) (by decide) rfl (c_layCorner hρ hT1 hk (u2_n (by omega) hs) hsk (u2_n (by omega) hr) (so := (sN : Int)) (by unfold ri; omega) (k := kN) (by omega)) ?_
      rintro r28 ρ28 f28 g28 ⟨rfl, s28_0, kc, kg, hj⟩
      obtain rfl := s28_0.symm
      refine V_iconst dX12_corner_31 ?_
      refine V_is4 dX12_corner_32 (by decide) rfl ?_
      refine V_iconst dX12_corner_34 ?_
      refine V_is5 dX12_corner_35 (by decide) rfl ?_
      refine V_iconst dX12_corner_37 ?_
      refine V_is6 dX12_corner_38 (by decide) rfl ?_
      exact w_cor40 hρ (hT1.km kc.km) hk (so := sN) (by omega) (J := jmS T ra sk kN) (W := wdS T ra sk kN) (fun m hm hb => ⟨(hj m hm hb).1, (hj m hm hb).2, jmS_rng⟩) rw_ (B := aCorn T ra sk (sN : Int) (kN : Int)) (by exact ⟨by rw [ea], rfl, k0.tr kc.km, kg.km⟩) 0 (by omega) (-1, 0) (by simp only; omega) (by unfold aCorn; simp only [Int.toNat_natCast]; rfl)
    · refine V_iconst dX12_corner_23 ?_
      exact V_ireturn rfl ⟨by unfold aCorner; simp only [*]; simp, rfl, k0, KM.rf⟩ dX12_corner_24

