section CCORN2
variable {T : TT} {b : Nat} {ρ : RT} {f : IT} {g : JT}
theorem sb_le : ∀ so : Nat, so < 32 → ∀ i : Nat, i < 32 → sbJ i so = true → i ≤ so := by decide +kernel
theorem rsA_ext {R : Nat → Bool} {wa : Int} : ∀ (k r i n : Nat), (∀ j, i + r ≤ j → j < i + r + k → R j = false) → rsA R wa (r + k) i n = rsA R wa r i n
  | 0, r, i, n, _ => rfl
  | k + 1, 0, i, n, h => by
    have := rsA_ext (R := R) (wa := wa) k 0 (i + 1) n (fun j h1 h2 => h j (by omega) (by omega))
    rw [Nat.zero_add] at this
    rw [Nat.zero_add, show rsA R wa (k + 1) i n = if R i = true then (if (n : Int) = wa then (i : Int) else rsA R wa k (i + 1) (n + 1)) else rsA R wa k (i + 1) n from rfl, if_neg (by rw [h i (by omega) (by omega)]; exact Bool.false_ne_true), this]
    rfl
  | k + 1, r + 1, i, n, h => by
    have h1 := fun n' => rsA_ext (R := R) (wa := wa) (k + 1) r (i + 1) n' (fun j z1 z2 => h j (by omega) (by omega))
    rw [show r + 1 + (k + 1) = (r + (k + 1)) + 1 by omega, rsA, rsA, h1, h1]
theorem rsA_32 {so : Nat} (hso : so < 32) {J W : Nat → Int} {n : Nat} {wa : Int} : rsA (reJ n so J W) wa (so + 1) 0 0 = rsA (reJ n so J W) wa 32 0 0 := by
  have := rsA_ext (R := reJ n so J W) (wa := wa) (31 - so) (so + 1) 0 0 (fun j h1 h2 => by
    unfold reJ
    cases z : sbJ j so with
    | false => rfl
    | true => have := sb_le so hso j (by omega) z; omega)
  rw [show so + 1 + (31 - so) = 32 by omega] at this
  exact this.symm
theorem crJ_ext {n so : Nat} {J W : Nat → Int} : ∀ (k r i : Nat) (B : Int × Int), (∀ j, i + r ≤ j → j < i + r + k → sbJ j so = false) → crJ n so J W (r + k) i B = crJ n so J W r i B
  | 0, r, i, B, _ => rfl
  | k + 1, 0, i, B, h => by
    have := crJ_ext (n := n) (so := so) (J := J) (W := W) k 0 (i + 1) B (fun j h1 h2 => h j (by omega) (by omega))
    rw [Nat.zero_add] at this
    rw [Nat.zero_add, show crJ n so J W (k + 1) i B = crJ n so J W k (i + 1) (if sbJ i so = true then (if 0 ≤ B.1 ∧ B.2 ≤ smJ n (so : Int) J W (i : Int) then B else ((i : Int), smJ n (so : Int) J W (i : Int))) else B) from rfl, if_neg (by rw [h i (by omega) (by omega)]; exact Bool.false_ne_true), this]
    rfl
  | k + 1, r + 1, i, B, h => by
    rw [show r + 1 + (k + 1) = (r + (k + 1)) + 1 by omega, crJ, crJ, crJ_ext (k + 1) r (i + 1) _ (fun j z1 z2 => h j (by omega) (by omega))]
theorem crJ_32 {so : Nat} (hso : so < 32) {J W : Nat → Int} {n : Nat} : crJ n so J W (so + 1) 0 (-1, 0) = crJ n so J W 31 1 (0, smJ n (so : Int) J W 0) := by
  have := crJ_ext (n := n) (so := so) (J := J) (W := W) (31 - so) (so + 1) 0 (-1, 0) (fun j h1 h2 => by
    cases z : sbJ j so with
    | false => rfl
    | true => have := sb_le so hso j (by omega) z; omega)
  rw [show so + 1 + (31 - so) = 31 + 1 by omega] at this
  rw [← this, crJ, if_pos (by unfold sbJ; simp), if_neg (by simp only; omega)]
  rfl
theorem smJ_r {so : Nat} {J W : Nat → Int} {n : Nat} (hn : n ≤ 5) (h : ∀ m, (0 ≤ J m ∧ J m ≤ 999) ∧ (0 ≤ W m ∧ W m ≤ 999)) (i : Int) : -4995 ≤ smJ n (so : Int) J W i ∧ smJ n (so : Int) J W i ≤ 19980 := by
  have := smJ_rng (so := (so : Int)) (J := J) (W := W) (i := i) hn (fun m _ _ => h m) n (by omega)
  unfold smJ
  omega
theorem w_least (hρ : Fx ρ) {so : Nat} {J W : Nat → Int} (hq : TQ T so J W f) {B : Int × Int} {Q : QT} (hQ : ∀ i : Nat, i < 32 → B = ((i : Int), smJ (nMe T) (so : Int) J W (i : Int)) → Q (some (.int (iz (i : Int)))) ρ f g)
    (i : Nat) (hi : 1 ≤ i ∧ i ≤ 32) (k : Nat) (hk : k < 32) (hB : B = crJ (nMe T) so J W (32 - i) i ((k : Int), smJ (nMe T) (so : Int) J W (k : Int))) :
    V_X9_least Q 10 [.ref 81, .int (iz (k : Int)), .int (iz (smJ (nMe T) (so : Int) J W (k : Int))), .int (iz (i : Int))] [] ρ f g := by
  obtain ⟨⟨s1, s2, s3⟩, ⟨j0, hJ⟩, hR⟩ := hq
  have hq : TQ T so J W f := ⟨⟨s1, s2, s3⟩, ⟨j0, hJ⟩, hR⟩
  by_cases e : i = 32
  · subst e
    simp only [Nat.sub_self, crJ] at hB
    refine V_il3n dX9_least_10 ?_
    refine V_bipush dX9_least_11 rfl ?_
    refine V_icmp_ge (tgt := 47) dX9_least_13 rfl (by unfold ri; omega) (by unfold ri; omega) (fun b13 => ?_) (fun b13 => ?_)
    · refine V_il1n dX9_least_47 ?_
      exact V_ireturn rfl (hQ k hk hB) dX9_least_48
    · exfalso; omega
  · have r1 := smJ_r (so := so) s3 hR (k : Int)
    have r2 := smJ_r (so := so) s3 hR (i : Int)
    rw [show 32 - i = (32 - (i + 1)) + 1 by omega, crJ] at hB
    refine V_il3n dX9_least_10 ?_
    refine V_bipush dX9_least_11 rfl ?_
    refine V_icmp_ge (tgt := 47) dX9_least_13 rfl (by unfold ri; omega) (by unfold ri; omega) (fun b13 => ?_) (fun b13 => ?_)
    · exfalso; omega
    · refine V_al0n dX9_least_16 ?_
      refine V_il3n dX9_least_17 ?_
      refine V_callV (as := [_]) ml_X9_28 im_X9_isOf se_X9_isOf kk81 (by decide) (by decide) dX9_least_18 rfl rfl (by decide) (by decide) (Nat.le_of_ble_eq_true rfl) (by decide) (by decide) rfl (c_xisOf s1 (by omega : i < 32) j0) ?_
      refine pq4 ?_
      refine V_bt (tgt := 41) dX9_least_21 rfl (fun b21 => ?_) (fun b21 => ?_)
      · refine V_inc3 dX9_least_41 (by decide) rfl ?_
        refine V_goto (tgt := 10) dX9_least_44 rfl ?_
        rw [b21, if_neg Bool.false_ne_true] at hB
        exact w_least hρ hq hQ (i + 1) (by omega) k hk hB
      · refine V_al0n dX9_least_24 ?_
        refine V_il3n dX9_least_25 ?_
        refine V_callV (as := [_]) ml_X9_36 im_X9_sum se_X9_sum kk81 (by decide) (by decide) dX9_least_26 rfl rfl (by decide) (by decide) (Nat.le_of_ble_eq_true rfl) (by decide) (by decide) rfl (c_xsum hρ hq (by omega : i < 32)) ?_
        refine pq4 ?_
        refine V_il2n dX9_least_29 ?_
        refine V_icmp_ge (tgt := 41) dX9_least_30 rfl (by unfold ri; omega) (by unfold ri; omega) (fun b30 => ?_) (fun b30 => ?_)
        · refine V_inc3 dX9_least_41 (by decide) rfl ?_
          refine V_goto (tgt := 10) dX9_least_44 rfl ?_
          rw [if_pos b21, if_pos ⟨by simp only; omega, by simp only; omega⟩] at hB
          exact w_least hρ hq hQ (i + 1) (by omega) k hk hB
        · refine V_il3n dX9_least_33 ?_
          refine V_is1n dX9_least_34 (by decide) rfl ?_
          refine V_al0n dX9_least_35 ?_
          refine V_il3n dX9_least_36 ?_
          refine V_callV (as := [_]) ml_X9_36 im_X9_sum se_X9_sum kk81 (by decide) (by decide) dX9_least_37 rfl rfl (by decide) (by decide) (Nat.le_of_ble_eq_true rfl) (by decide) (by decide) rfl (c_xsum hρ hq (by omega : i < 32)) ?_
          refine pq4 ?_
          refine V_is2n dX9_least_40 (by decide) rfl ?_
          refine V_inc3 dX9_least_41 (by decide) rfl ?_
          refine V_goto (tgt := 10) dX9_least_44 rfl ?_
          rw [if_pos b21, if_neg (by simp only; omega)] at hB
          exact w_least hρ hq hQ (i + 1) (by omega) i (by omega) hB
termination_by 32 - i
theorem c_least (hρ : Fx ρ) {so : Nat} {J W : Nat → Int} (hq : TQ T so J W f) : C_X9_least [.ref 81] ρ f g (fun r ρ' f' g' => ∃ i : Nat, i < 32 ∧ crJ (nMe T) so J W (so + 1) 0 (-1, 0) = ((i : Int), smJ (nMe T) (so : Int) J W (i : Int)) ∧ r = some (.int (iz (i : Int))) ∧ ρ' = ρ ∧ f' = f ∧ g' = g) := by
  refine Ct.ofV (by decide) rfl (Nat.le_of_ble_eq_true rfl) ?_
  refine V_iconst dX9_least_0 ?_
  refine V_is1n dX9_least_1 (by decide) rfl ?_
  refine V_al0n dX9_least_2 ?_
  refine V_iconst dX9_least_3 ?_
  refine V_callV (as := [_]) ml_X9_36 im_X9_sum se_X9_sum kk81 (by decide) (by decide) dX9_least_4 rfl rfl (by decide) (by decide) (Nat.le_of_ble_eq_true rfl) (by decide) (by decide) rfl (c_xsum hρ hq (i := 0) (by omega)) ?_
  refine pq4 ?_
  refine V_is2n dX9_least_7 (by decide) rfl ?_
  refine V_iconst dX9_least_8 ?_
  refine V_is3n dX9_least_9 (by decide) rfl ?_
  exact w_least hρ hq (fun i h1 h2 => ⟨i, h1, h2, rfl, rfl, rfl, rfl⟩) 1 (by omega) 0 (by omega) (crJ_32 hq.1.1)
theorem cornO_eq {so k : Int} : cornO T so k = (decide (0 < so ∧ so < 2 ^ nMe T) && (okL T k && decide (T 110 k.toNat = 1))) := by unfold cornO; rw [Bool.and_assoc]
theorem TQ.of (hk : TOK T) {so : Nat} {k : Int} (hc : cornO T (so : Int) k = true) {ra : Bool} {sk : Int} {kN : Nat} (hJ : TJ so (nMe T) (jmS T ra sk kN) (wdS T ra sk kN) f) : TQ T so (jmS T ra sk kN) (wdS T ra sk kN) f := by
  have h1 := corn_at hk hc
  exact ⟨⟨by omega, h1.2.2.1, hk.me.2⟩, hJ, fun m => jmS_rng⟩
theorem w_crests (hρ : Fx ρ) {so : Nat} {J W : Nat → Int} (hq : TQ T so J W f) {A a1 a2 : Int} {Q : QT} (hQ : Q (some (.int (iz A))) ρ f g) (i : Nat) (hi : i ≤ 32) (n : Nat) (hA : A = rsA (reJ (nMe T) so J W) (-1) (32 - i) i n) :
    V_X11_rests Q 29 [.ref 0, .int (iz a1), .int (iz a2), .int (iz (n : Int)), .int (iz (i : Int))] [] ρ f g := by
  by_cases e : i = 32
  · subst e
    simp only [Nat.sub_self, rsA] at hA
    rw [if_pos (by omega)] at hA
    subst hA
    refine V_il4 dX11_rests_29 ?_
    refine V_bipush dX11_rests_31 rfl ?_
    refine V_icmp_ge (tgt := 62) dX11_rests_33 rfl (by unfold ri; omega) (by unfold ri; omega) (fun b33 => ?_) (fun b33 => ?_)
    · refine V_il3n dX11_rests_62 ?_
      exact V_ireturn rfl hQ dX11_rests_63
    · exfalso; omega
  · rw [show 32 - i = (32 - (i + 1)) + 1 by omega, rsA] at hA
    refine V_il4 dX11_rests_29 ?_
    refine V_bipush dX11_rests_31 rfl ?_
    refine V_icmp_ge (tgt := 62) dX11_rests_33 rfl (by unfold ri; omega) (by unfold ri; omega) (fun b33 => ?_) (fun b33 => ?_)
    · exfalso; omega
    · refine V_il3n dX11_rests_36 ?_
      refine V_al0n dX11_rests_37 ?_
      refine V_getR kk0 (by decide) fl_X11_107 (fx_0_19 hρ) dX11_rests_38 ?_
      refine V_il4 dX11_rests_41 ?_
      refine V_callV (as := [_]) ml_X11_361 im_X9_isRest se_X9_isRest kk81 (by decide) (by decide) dX11_rests_43 rfl rfl (by decide) (by decide) (Nat.le_of_ble_eq_true rfl) (by decide) (by decide) rfl (c_xrest hρ hq (by omega : i < 32)) ?_
      refine pq4 ?_
      refine V_bt (tgt := 53) dX11_rests_46 rfl (fun b46 => ?_) (fun b46 => ?_)
      · refine V_iconst dX11_rests_53 ?_
        refine V_iadd dX11_rests_54 ?_
        refine V_is3n dX11_rests_55 (by decide) rfl ?_
        refine V_inc4 dX11_rests_56 (by decide) rfl ?_
        refine V_goto (tgt := 29) dX11_rests_59 rfl ?_
        rw [b46, if_neg Bool.false_ne_true] at hA
        rw [Int.add_zero]
        exact w_crests hρ hq hQ (i + 1) (by omega) n hA
      · refine V_iconst dX11_rests_49 ?_
        refine V_goto (tgt := 54) dX11_rests_50 rfl ?_
        refine V_iadd dX11_rests_54 ?_
        refine V_is3n dX11_rests_55 (by decide) rfl ?_
        refine V_inc4 dX11_rests_56 (by decide) rfl ?_
        refine V_goto (tgt := 29) dX11_rests_59 rfl ?_
        rw [if_pos b46, if_neg (by omega)] at hA
        exact w_crests hρ hq hQ (i + 1) (by omega) (n + 1) hA
termination_by 32 - i
theorem w_crest (hρ : Fx ρ) {so : Nat} {J W : Nat → Int} (hq : TQ T so J W f) {A a1 a2 wa : Int} (rw_ : ri wa) (hw : 0 ≤ wa) {Q : QT} (hQ : Q (some (.int (iz A))) ρ f g) (i : Nat) (hi : i ≤ 32) (n : Nat) (hn : n ≤ i) (hA : A = rsA (reJ (nMe T) so J W) wa (32 - i) i n) :
    V_X11_rest Q 34 [.ref 0, .int (iz a1), .int (iz a2), .int (iz wa), .int (iz (n : Int)), .int (iz (i : Int)), .null] [] ρ f g := by
  by_cases e : i = 32
  · subst e
    simp only [Nat.sub_self, rsA] at hA
    rw [if_neg (by omega)] at hA
    subst hA
    refine V_il5 dX11_rest_34 ?_
    refine V_bipush dX11_rest_36 rfl ?_
    refine V_icmp_ge (tgt := 87) dX11_rest_38 rfl (by unfold ri; omega) (by unfold ri; omega) (fun b38 => ?_) (fun b38 => ?_)
    · refine V_bipush dX11_rest_87 rfl ?_
      exact V_ireturn rfl hQ dX11_rest_89
    · exfalso; omega
  · rw [show 32 - i = (32 - (i + 1)) + 1 by omega, rsA] at hA
    refine V_il5 dX11_rest_34 ?_
    refine V_bipush dX11_rest_36 rfl ?_
    refine V_icmp_ge (tgt := 87) dX11_rest_38 rfl (by unfold ri; omega) (by unfold ri; omega) (fun b38 => ?_) (fun b38 => ?_)
    · exfalso; omega
    · refine V_al0n dX11_rest_41 ?_
      refine V_getR kk0 (by decide) fl_X11_107 (fx_0_19 hρ) dX11_rest_42 ?_
      refine V_il5 dX11_rest_45 ?_
      refine V_callV (as := [_]) ml_X11_361 im_X9_isRest se_X9_isRest kk81 (by decide) (by decide) dX11_rest_47 rfl rfl (by decide) (by decide) (Nat.le_of_ble_eq_true rfl) (by decide) (by decide) rfl (c_xrest hρ hq (by omega : i < 32)) ?_
      refine pq4 ?_
      refine V_is6 dX11_rest_50 (by decide) rfl ?_
      refine V_il6 dX11_rest_52 ?_
      refine V_bt (tgt := 66) dX11_rest_54 rfl (fun b54 => ?_) (fun b54 => ?_)
      · refine V_il4 dX11_rest_66 ?_
        refine V_il6 dX11_rest_68 ?_
        refine V_bt (tgt := 77) dX11_rest_70 rfl (fun b70 => ?_) (fun b70 => ?_)
        · refine V_iconst dX11_rest_77 ?_
          refine V_iadd dX11_rest_78 ?_
          refine V_is4 dX11_rest_79 (by decide) rfl ?_
          refine V_inc5 dX11_rest_81 (by decide) rfl ?_
          refine V_goto (tgt := 34) dX11_rest_84 rfl ?_
          first | exact Bool.noConfusion (b70.symm.trans b54) | (rw [b70, if_neg Bool.false_ne_true] at hA; rw [Int.add_zero]; exact V_weak (by repeat (first | exact wk_n | refine wk_c (Or.inr rfl) ?_ | refine wk_c (Or.inl rfl) ?_)) (w_crest hρ hq rw_ hw hQ (i + 1) (by omega) n (by omega) hA))
        · refine V_iconst dX11_rest_73 ?_
          refine V_goto (tgt := 78) dX11_rest_74 rfl ?_
          refine V_iadd dX11_rest_78 ?_
          refine V_is4 dX11_rest_79 (by decide) rfl ?_
          refine V_inc5 dX11_rest_81 (by decide) rfl ?_
          refine V_goto (tgt := 34) dX11_rest_84 rfl ?_
          first | exact Bool.noConfusion (b70.symm.trans b54) | (rw [if_pos b70, if_neg b60] at hA; exact V_weak (by repeat (first | exact wk_n | refine wk_c (Or.inr rfl) ?_ | refine wk_c (Or.inl rfl) ?_)) (w_crest hρ hq rw_ hw hQ (i + 1) (by omega) (n + 1) (by omega) hA))
      · refine V_il4 dX11_rest_57 ?_
        refine V_il3n dX11_rest_59 ?_
        refine V_icmp_ne (tgt := 66) dX11_rest_60 rfl (by unfold ri; omega) rw_ (fun b60 => ?_) (fun b60 => ?_)
        · refine V_il4 dX11_rest_66 ?_
          refine V_il6 dX11_rest_68 ?_
          refine V_bt (tgt := 77) dX11_rest_70 rfl (fun b70 => ?_) (fun b70 => ?_)
          · refine V_iconst dX11_rest_77 ?_
            refine V_iadd dX11_rest_78 ?_
            refine V_is4 dX11_rest_79 (by decide) rfl ?_
            refine V_inc5 dX11_rest_81 (by decide) rfl ?_
            refine V_goto (tgt := 34) dX11_rest_84 rfl ?_
            first | exact Bool.noConfusion (b70.symm.trans b54) | (rw [b70, if_neg Bool.false_ne_true] at hA; rw [Int.add_zero]; exact V_weak (by repeat (first | exact wk_n | refine wk_c (Or.inr rfl) ?_ | refine wk_c (Or.inl rfl) ?_)) (w_crest hρ hq rw_ hw hQ (i + 1) (by omega) n (by omega) hA))
          · refine V_iconst dX11_rest_73 ?_
            refine V_goto (tgt := 78) dX11_rest_74 rfl ?_
            refine V_iadd dX11_rest_78 ?_
            refine V_is4 dX11_rest_79 (by decide) rfl ?_
            refine V_inc5 dX11_rest_81 (by decide) rfl ?_
            refine V_goto (tgt := 34) dX11_rest_84 rfl ?_
            first | exact Bool.noConfusion (b70.symm.trans b54) | (rw [if_pos b70, if_neg b60] at hA; exact V_weak (by repeat (first | exact wk_n | refine wk_c (Or.inr rfl) ?_ | refine wk_c (Or.inl rfl) ?_)) (w_crest hρ hq rw_ hw hQ (i + 1) (by omega) (n + 1) (by omega) hA))
        · refine V_il5 dX11_rest_63 ?_
          exact V_ireturn rfl (by rw [if_pos b54, if_pos b60] at hA; subst hA; exact hQ) dX11_rest_65
termination_by 32 - i
theorem c_rests (hW : TW T b ρ) (hC : CT T b f) {fl0 ra0 : Bool} (hG : GI T fl0 ra0 f g) (h5 : f 55 5 < 999000) {sk : Int} {ra : Bool} (hs : f 0 5 = sk) (hsk : 0 ≤ sk ∧ sk ≤ 30) (hr : f 0 6 = bz ra) {so k : Int} (rs : ri so) (rk : ri k) :
    C_X11_rests [.ref 0, .int (iz so), .int (iz k)] ρ f g (fun r ρ' f' g' => r = some (.int (iz (if cornO T so k = true then aRest T ra sk so k (-1) else -1))) ∧ ρ' = ρ ∧ QC T b 5 f g f' g') := by
  have hk := hW.2.2.2.2.1
  have hρ := hW.1
  refine Ct.ofV (by decide) rfl (Nat.le_of_ble_eq_true rfl) ?_
  have e0 := cornO_eq (T := T) (so := so) (k := k)
  cases c : cornO T so k with
  | true =>
    have hc := corn_at hk c
    obtain ⟨sN, rfl⟩ : ∃ n : Nat, so = n := ⟨so.toNat, by omega⟩
    obtain ⟨kN, rfl⟩ : ∃ n : Nat, k = n := ⟨k.toNat, by omega⟩
    rw [c] at e0
    have e1 := e0.symm
    rw [Bool.and_eq_true] at e1
    rw [if_pos rfl]
    refine V_al0n dX11_rests_0 ?_
    refine V_il1n dX11_rests_1 ?_
    refine V_callV (as := [_]) ml_X11_348 im_X11_areMen se_X11_areMen kk0 (by decide) (by decide) dX11_rests_2 rfl rfl (by decide) (by decide) (Nat.le_of_ble_eq_true rfl) (by decide) (by decide) rfl (c_areMen hW hC rs) ?_
    refine pq4 ?_
    refine V_bt (tgt := 16) dX11_rests_5 rfl (fun b5 => ?_) (fun b5 => ?_)
    · rw [e1.1] at b5; cases b5
    · refine V_al0n dX11_rests_8 ?_
      refine V_il2n dX11_rests_9 ?_
      refine V_callV (as := [_]) ml_X11_354 im_X11_isBend se_X11_isBend kk0 (by decide) (by decide) dX11_rests_10 rfl rfl (by decide) (by decide) (Nat.le_of_ble_eq_true rfl) (by decide) (by decide) rfl (c_isBend hW hC rk) ?_
      refine pq4 ?_
      refine V_bf (tgt := 18) dX11_rests_13 rfl (fun b13 => ?_) (fun b13 => ?_)
      · refine V_al0n dX11_rests_18 ?_
        refine V_il1n dX11_rests_19 ?_
        refine V_il2n dX11_rests_20 ?_
        refine V_callV (as := [_, _]) ml_X11_357 im_X11_layTurn se_X11_layTurn kk0 (by decide) (by decide) dX11_rests_21 rfl rfl (by decide) (by decide) (Nat.le_of_ble_eq_true rfl) (by decide) (by decide) rfl (c_layTurn hW hC hG h5 hs hsk hr (so := sN) (k := kN) (by omega)) ?_
        rintro r21 ρ21 f21 g21 ⟨rfl, s21_0, q1, q2⟩
        obtain rfl := s21_0.symm
        refine V_iconst dX11_rests_24 ?_
        refine V_is3n dX11_rests_25 (by decide) rfl ?_
        refine V_iconst dX11_rests_26 ?_
        refine V_is4 dX11_rests_27 (by decide) rfl ?_
        exact w_crests hρ (TQ.of hk c q2) ⟨rfl, rfl, q1⟩ 0 (by omega) 0 (by unfold aRest; simp only [Int.toNat_natCast]; exact rsA_32 (by omega))
      · rw [e1.2] at b13; cases b13
  | false =>
    rw [if_neg Bool.false_ne_true]
    rw [c] at e0
    refine V_al0n dX11_rests_0 ?_
    refine V_il1n dX11_rests_1 ?_
    refine V_callV (as := [_]) ml_X11_348 im_X11_areMen se_X11_areMen kk0 (by decide) (by decide) dX11_rests_2 rfl rfl (by decide) (by decide) (Nat.le_of_ble_eq_true rfl) (by decide) (by decide) rfl (c_areMen hW hC rs) ?_
    refine pq4 ?_
    refine V_bt (tgt := 16) dX11_rests_5 rfl (fun b5 => ?_) (fun b5 => ?_)
    · refine V_iconst dX11_rests_16 ?_
      exact V_ireturn rfl ⟨rfl, rfl, QC.rf hG hC (by omega)⟩ dX11_rests_17
    · refine V_al0n dX11_rests_8 ?_
      refine V_il2n dX11_rests_9 ?_
      refine V_callV (as := [_]) ml_X11_354 im_X11_isBend se_X11_isBend kk0 (by decide) (by decide) dX11_rests_10 rfl rfl (by decide) (by decide) (Nat.le_of_ble_eq_true rfl) (by decide) (by decide) rfl (c_isBend hW hC rk) ?_
      refine pq4 ?_
      refine V_bf (tgt := 18) dX11_rests_13 rfl (fun b13 => ?_) (fun b13 => ?_)
      · rw [b5, b13] at e0; cases e0
      · refine V_iconst dX11_rests_16 ?_
        exact V_ireturn rfl ⟨rfl, rfl, QC.rf hG hC (by omega)⟩ dX11_rests_17
theorem c_rest (hW : TW T b ρ) (hC : CT T b f) {fl0 ra0 : Bool} (hG : GI T fl0 ra0 f g) (h5 : f 55 5 < 999000) {sk : Int} {ra : Bool} (hs : f 0 5 = sk) (hsk : 0 ≤ sk ∧ sk ≤ 30) (hr : f 0 6 = bz ra) {so k wa : Int} (rs : ri so) (rk : ri k) (rw_ : ri wa) :
    C_X11_rest [.ref 0, .int (iz so), .int (iz k), .int (iz wa)] ρ f g (fun r ρ' f' g' => r = some (.int (iz (if (cornO T so k && decide (0 ≤ wa)) = true then aRest T ra sk so k wa else -1))) ∧ ρ' = ρ ∧ QC T b 5 f g f' g') := by
  have hk := hW.2.2.2.2.1
  have hρ := hW.1
  refine Ct.ofV (by decide) rfl (Nat.le_of_ble_eq_true rfl) ?_
  have e0 := cornO_eq (T := T) (so := so) (k := k)
  cases c : (cornO T so k && decide (0 ≤ wa)) with
  | true =>
    rw [Bool.and_eq_true] at c
    have cw : 0 ≤ wa := by simpa using c.2
    have c := c.1
    have hc := corn_at hk c
    obtain ⟨sN, rfl⟩ : ∃ n : Nat, so = n := ⟨so.toNat, by omega⟩
    obtain ⟨kN, rfl⟩ : ∃ n : Nat, k = n := ⟨k.toNat, by omega⟩
    rw [c] at e0
    have e1 := e0.symm
    rw [Bool.and_eq_true] at e1
    rw [if_pos rfl]
    refine V_al0n dX11_rest_0 ?_
    refine V_il1n dX11_rest_1 ?_
    refine V_callV (as := [_]) ml_X11_348 im_X11_areMen se_X11_areMen kk0 (by decide) (by decide) dX11_rest_2 rfl rfl (by decide) (by decide) (Nat.le_of_ble_eq_true rfl) (by decide) (by decide) rfl (c_areMen hW hC rs) ?_
    refine pq4 ?_
    refine V_bt (tgt := 20) dX11_rest_5 rfl (fun b5 => ?_) (fun b5 => ?_)
    · rw [e1.1] at b5; cases b5
    · refine V_al0n dX11_rest_8 ?_
      refine V_il2n dX11_rest_9 ?_
      refine V_callV (as := [_]) ml_X11_354 im_X11_isBend se_X11_isBend kk0 (by decide) (by decide) dX11_rest_10 rfl rfl (by decide) (by decide) (Nat.le_of_ble_eq_true rfl) (by decide) (by decide) rfl (c_isBend hW hC rk) ?_
      refine pq4 ?_
      refine V_bt (tgt := 20) dX11_rest_13 rfl (fun b13 => ?_) (fun b13 => ?_)
      · rw [e1.2] at b13; cases b13
      · refine V_il3n dX11_rest_16 ?_
        refine V_if_ge (tgt := 22) dX11_rest_17 rfl rw_ (fun b17 => ?_) (fun b17 => ?_)
        · refine V_al0n dX11_rest_22 ?_
          refine V_il1n dX11_rest_23 ?_
          refine V_il2n dX11_rest_24 ?_
          refine V_callV (as := [_, _]) ml_X11_357 im_X11_layTurn se_X11_layTurn kk0 (by decide) (by decide) dX11_rest_25 rfl rfl (by decide) (by decide) (Nat.le_of_ble_eq_true rfl) (by decide) (by decide) rfl (c_layTurn hW hC hG h5 hs hsk hr (so := sN) (k := kN) (by omega)) ?_
          rintro r25 ρ25 f25 g25 ⟨rfl, s25_0, q1, q2⟩
          obtain rfl := s25_0.symm
          refine V_iconst dX11_rest_28 ?_
          refine V_is4 dX11_rest_29 (by decide) rfl ?_
          refine V_iconst dX11_rest_31 ?_
          refine V_is5 dX11_rest_32 (by decide) rfl ?_
          exact w_crest hρ (TQ.of hk c q2) rw_ cw ⟨rfl, rfl, q1⟩ 0 (by omega) 0 (by omega) (by unfold aRest; simp only [Int.toNat_natCast]; exact rsA_32 (by omega))
        · exfalso; omega
  | false =>
    rw [if_neg Bool.false_ne_true]
    refine V_al0n dX11_rest_0 ?_
    refine V_il1n dX11_rest_1 ?_
    refine V_callV (as := [_]) ml_X11_348 im_X11_areMen se_X11_areMen kk0 (by decide) (by decide) dX11_rest_2 rfl rfl (by decide) (by decide) (Nat.le_of_ble_eq_true rfl) (by decide) (by decide) rfl (c_areMen hW hC rs) ?_
    refine pq4 ?_
    refine V_bt (tgt := 20) dX11_rest_5 rfl (fun b5 => ?_) (fun b5 => ?_)
    · refine V_iconst dX11_rest_20 ?_
      exact V_ireturn rfl ⟨rfl, rfl, QC.rf hG hC (by omega)⟩ dX11_rest_21
    · refine V_al0n dX11_rest_8 ?_
      refine V_il2n dX11_rest_9 ?_
      refine V_callV (as := [_]) ml_X11_354 im_X11_isBend se_X11_isBend kk0 (by decide) (by decide) dX11_rest_10 rfl rfl (by decide) (by decide) (Nat.le_of_ble_eq_true rfl) (by decide) (by decide) rfl (c_isBend hW hC rk) ?_
      refine pq4 ?_
      refine V_bt (tgt := 20) dX11_rest_13 rfl (fun b13 => ?_) (fun b13 => ?_)
      · refine V_iconst dX11_rest_20 ?_
        exact V_ireturn rfl ⟨rfl, rfl, QC.rf hG hC (by omega)⟩ dX11_rest_21
      · refine V_il3n dX11_rest_16 ?_
        refine V_if_ge (tgt := 22) dX11_rest_17 rfl rw_ (fun b17 => ?_) (fun b17 => ?_)
        · rw [b5, b13] at e0; rw [e0, decide_eq_true (show 0 ≤ wa by omega)] at c; cases c
        · refine V_iconst dX11_rest_20 ?_
          exact V_ireturn rfl ⟨rfl, rfl, QC.rf hG hC (by omega)⟩ dX11_rest_21
theorem c_corner (hW : TW T b ρ) (hC : CT T b f) {fl0 ra0 : Bool} (hG : GI T fl0 ra0 f g) (h5 : f 55 5 < 999000) {sk : Int} {ra : Bool} (hs : f 0 5 = sk) (hsk : 0 ≤ sk ∧ sk ≤ 30) (hr : f 0 6 = bz ra) {so k w : Int} (rs : ri so) (rk : ri k) (rw_ : ri w) :
    C_X11_corner [.ref 0, .int (iz so), .int (iz k), .int (iz w)] ρ f g (fun r ρ' f' g' => r = some (.int (iz (aCorner T ra sk so k w))) ∧ ρ' = ρ ∧ QC T b 5 f g f' g') := by
  have hk := hW.2.2.2.2.1
  have hρ := hW.1
  refine Ct.ofV (by decide) rfl (Nat.le_of_ble_eq_true rfl) ?_
  have e0 := cornO_eq (T := T) (so := so) (k := k)
  unfold aCorner
  cases c : (cornO T so k && zin w 0 1) with
  | true =>
    rw [Bool.and_eq_true] at c
    have cw := c.2
    have c := c.1
    have hc := corn_at hk c
    obtain ⟨sN, rfl⟩ : ∃ n : Nat, so = n := ⟨so.toNat, by omega⟩
    obtain ⟨kN, rfl⟩ : ∃ n : Nat, k = n := ⟨k.toNat, by omega⟩
    rw [c] at e0
    have e1 := e0.symm
    rw [Bool.and_eq_true] at e1
    rw [if_pos rfl]
    have ea : aCorn T ra sk (sN : Int) (kN : Int) = crJ (nMe T) sN (jmS T ra sk kN) (wdS T ra sk kN) (sN + 1) 0 (-1, 0) := by unfold aCorn; simp only [Int.toNat_natCast]
    rw [ea]
    refine V_al0n dX11_corner_0 ?_
    refine V_il1n dX11_corner_1 ?_
    refine V_callV (as := [_]) ml_X11_348 im_X11_areMen se_X11_areMen kk0 (by decide) (by decide) dX11_corner_2 rfl rfl (by decide) (by decide) (Nat.le_of_ble_eq_true rfl) (by decide) (by decide) rfl (c_areMen hW hC rs) ?_
    refine pq4 ?_
    refine V_bt (tgt := 23) dX11_corner_5 rfl (fun b5 => ?_) (fun b5 => ?_)
    · rw [e1.1] at b5; cases b5
    · refine V_al0n dX11_corner_8 ?_
      refine V_il2n dX11_corner_9 ?_
      refine V_callV (as := [_]) ml_X11_354 im_X11_isBend se_X11_isBend kk0 (by decide) (by decide) dX11_corner_10 rfl rfl (by decide) (by decide) (Nat.le_of_ble_eq_true rfl) (by decide) (by decide) rfl (c_isBend hW hC rk) ?_
      refine pq4 ?_
      refine V_bt (tgt := 23) dX11_corner_13 rfl (fun b13 => ?_) (fun b13 => ?_)
      · rw [e1.2] at b13; cases b13
      · refine V_il3n dX11_corner_16 ?_
        refine V_callS (as := [_]) ml_X11_283 sm_X11_isPair dX11_corner_17 rfl rfl (by decide) (by decide) (Nat.le_of_ble_eq_true rfl) (by decide) (by decide) rfl (c_isPair rw_) ?_
        refine pq4 ?_
        refine V_bf (tgt := 25) dX11_corner_20 rfl (fun b20 => ?_) (fun b20 => ?_)
        · refine V_al0n dX11_corner_25 ?_
          refine V_il1n dX11_corner_26 ?_
          refine V_il2n dX11_corner_27 ?_
          refine V_callV (as := [_, _]) ml_X11_357 im_X11_layTurn se_X11_layTurn kk0 (by decide) (by decide) dX11_corner_28 rfl rfl (by decide) (by decide) (Nat.le_of_ble_eq_true rfl) (by decide) (by decide) rfl (c_layTurn hW hC hG h5 hs hsk hr (so := sN) (k := kN) (by omega)) ?_
          rintro r28 ρ28 f28 g28 ⟨rfl, s28_0, q1, q2⟩
          obtain rfl := s28_0.symm
          have hq := TQ.of hk c q2
          refine V_al0n dX11_corner_31 ?_
          refine V_getR kk0 (by decide) fl_X11_107 (fx_0_19 hρ) dX11_corner_32 ?_
          refine V_callV (as := []) ml_X11_364 im_X9_least se_X9_least kk81 (by decide) (by decide) dX11_corner_35 rfl rfl (by decide) (by decide) (Nat.le_of_ble_eq_true rfl) (by decide) (by decide) rfl (c_least hρ hq) ?_
          rintro r35 ρ35 f35 g35 ⟨iN, i1, i2, rfl, s35_0, s35_1, s35_2⟩
          obtain rfl := s35_0.symm
          obtain rfl := s35_1.symm
          obtain rfl := s35_2.symm
          refine V_is4 dX11_corner_38 (by decide) rfl ?_
          refine V_il3n dX11_corner_40 ?_
          refine V_if_ne (tgt := 56) dX11_corner_41 rfl rw_ (fun b41 => ?_) (fun b41 => ?_)
          · refine V_il4 dX11_corner_56 ?_
            exact V_ireturn rfl ⟨by rw [i2]; first | rw [if_pos (by omega)] | rw [if_neg (by omega)], rfl, q1⟩ dX11_corner_58
          · refine V_al0n dX11_corner_44 ?_
            refine V_getR kk0 (by decide) fl_X11_107 (fx_0_19 hρ) dX11_corner_45 ?_
            refine V_il4 dX11_corner_48 ?_
            refine V_callV (as := [_]) ml_X11_368 im_X9_sum se_X9_sum kk81 (by decide) (by decide) dX11_corner_50 rfl rfl (by decide) (by decide) (Nat.le_of_ble_eq_true rfl) (by decide) (by decide) rfl (c_xsum hρ hq i1) ?_
            refine pq4 ?_
            refine V_goto (tgt := 58) dX11_corner_53 rfl ?_
            exact V_ireturn rfl ⟨by rw [i2]; first | rw [if_pos (by omega)] | rw [if_neg (by omega)], rfl, q1⟩ dX11_corner_58
        · rw [cw] at b20; cases b20
  | false =>
    rw [if_neg Bool.false_ne_true]
    refine V_al0n dX11_corner_0 ?_
    refine V_il1n dX11_corner_1 ?_
    refine V_callV (as := [_]) ml_X11_348 im_X11_areMen se_X11_areMen kk0 (by decide) (by decide) dX11_corner_2 rfl rfl (by decide) (by decide) (Nat.le_of_ble_eq_true rfl) (by decide) (by decide) rfl (c_areMen hW hC rs) ?_
    refine pq4 ?_
    refine V_bt (tgt := 23) dX11_corner_5 rfl (fun b5 => ?_) (fun b5 => ?_)
    · refine V_iconst dX11_corner_23 ?_
      exact V_ireturn rfl ⟨rfl, rfl, QC.rf hG hC (by omega)⟩ dX11_corner_24
    · refine V_al0n dX11_corner_8 ?_
      refine V_il2n dX11_corner_9 ?_
      refine V_callV (as := [_]) ml_X11_354 im_X11_isBend se_X11_isBend kk0 (by decide) (by decide) dX11_corner_10 rfl rfl (by decide) (by decide) (Nat.le_of_ble_eq_true rfl) (by decide) (by decide) rfl (c_isBend hW hC rk) ?_
      refine pq4 ?_
      refine V_bt (tgt := 23) dX11_corner_13 rfl (fun b13 => ?_) (fun b13 => ?_)
      · refine V_iconst dX11_corner_23 ?_
        exact V_ireturn rfl ⟨rfl, rfl, QC.rf hG hC (by omega)⟩ dX11_corner_24
      · refine V_il3n dX11_corner_16 ?_
        refine V_callS (as := [_]) ml_X11_283 sm_X11_isPair dX11_corner_17 rfl rfl (by decide) (by decide) (Nat.le_of_ble_eq_true rfl) (by decide) (by decide) rfl (c_isPair rw_) ?_
        refine pq4 ?_
        refine V_bf (tgt := 25) dX11_corner_20 rfl (fun b20 => ?_) (fun b20 => ?_)
        · rw [b5, b13] at e0; rw [e0, b20] at c; cases c
        · refine V_iconst dX11_corner_23 ?_
          exact V_ireturn rfl ⟨rfl, rfl, QC.rf hG hC (by omega)⟩ dX11_corner_24
end CCORN2

