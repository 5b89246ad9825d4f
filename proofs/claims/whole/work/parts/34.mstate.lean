/-! the reference's race: its cells are the state -/
theorem km_cg {α : Type} {f f' : Nat → Nat → α} {a k : Nat} {x : α} (h : KM f f') : KM (u2 f a k x) (u2 f' a k x) := fun b j hb => by
  unfold u2
  split
  · rfl
  · exact h b j hb
def raF (f : IT) : Bool := decide (f 104 68 = 1)
theorem raF_bz {f : IT} (h : f 104 68 = 0 ∨ f 104 68 = 1) : f 104 68 = bz (raF f) := by unfold raF bz; rcases h with h | h <;> simp [h]
def raceF (T : TT) (m p : Int) (f : IT) : IT := if (okM T m && okP T p) = true then u2 (u2 (u2 (u2 (u2 (u2 (u2 (u2 (u2 (u2 (u2 f 104 78 1) 104 79 m) 104 80 p) 137 0 0) 137 1 0) 137 2 (T 113 m.toNat)) 137 3 (T 114 m.toNat)) 137 4 0) 137 5 0) 137 6 (T 121 p.toNat)) 104 82 0 else f
theorem c_mrace {T : TT} {ρ : RT} {f : IT} {g : JT} (hρ : Fx ρ) (hT : MT T f) (hk : TOK T) {m p : Int} (rm : ri m) (rp : ri p) :
    C_X12_race [.ref 104, .int (iz m), .int (iz p)] ρ f g (fun r ρ' f' g' => r = some (.int (iz (bz (okM T m && okP T p)))) ∧ ρ' = ρ ∧ KM (raceF T m p f) f' ∧ KM g g') := by
  have h5 := hk.me
  have h4 := hk.pl
  have hT1 : MT T (u2 f 104 2 0) := hT.km (KM.u2 rfl KM.rf)
  refine Ct.ofV (by decide) rfl (Nat.le_of_ble_eq_true rfl) ?_
  refine V_al0n dX12_race_0 ?_
  refine V_iconst dX12_race_1 ?_
  refine V_putI kk104 (by decide) fl_X12_154 rfl dX12_race_2 ?_
  refine V_al0n dX12_race_5 ?_
  refine V_il1n dX12_race_6 ?_
  refine V_callV (as := [_]) ml_X12_462 im_X12_isMan se_X12_isMan kk104 (by decide) (by decide) dX12_race_7 rfl rfl (by decide) (by decide) (Nat.le_of_ble_eq_true rfl) (by decide) (by decide) rfl (c_isMan rm ((hT1 104 13 rfl).trans h5.1) (by unfold ri; omega)) ?_
  refine pq4 ?_
  refine V_bt (tgt := 21) dX12_race_10 rfl (fun b10 => ?_) (fun b10 => ?_)
  · refine V_iconst dX12_race_21 ?_
    exact V_zreturn rfl (by first | exact Or.inl rfl | exact Or.inr rfl | (unfold bz; split <;> simp)) ⟨by unfold okM okP; simp only [*]; simp [bz], rfl, by unfold raceF okM okP; simp only [*]; simp; exact KM.u2 rfl KM.rf, KM.rf⟩ dX12_race_22
  · refine V_al0n dX12_race_13 ?_
    refine V_il2n dX12_race_14 ?_
    refine V_callV (as := [_]) ml_X12_456 im_X12_isPlan se_X12_isPlan kk104 (by decide) (by decide) dX12_race_15 rfl rfl (by decide) (by decide) (Nat.le_of_ble_eq_true rfl) (by decide) (by decide) rfl (c_isPlan rp ((hT1 104 15 rfl).trans h4.1) (by unfold ri; omega)) ?_
    refine pq4 ?_
    refine V_bf (tgt := 23) dX12_race_18 rfl (fun b18 => ?_) (fun b18 => ?_)
    · have c1 := b10
      have c2 := b18
      simp only [decide_eq_true_eq] at c1 c2
      obtain ⟨mN, rfl⟩ : ∃ n : Nat, m = n := ⟨m.toNat, by omega⟩
      obtain ⟨pN, rfl⟩ : ∃ n : Nat, p = n := ⟨p.toNat, by omega⟩
      refine V_al0n dX12_race_23 ?_
      refine V_iconst dX12_race_24 ?_
      refine V_putZ kk104 (by decide) fl_X12_292 rfl (by first | exact Or.inl rfl | exact Or.inr rfl | (unfold bz; split <;> simp)) dX12_race_25 ?_
      refine V_al0n dX12_race_28 ?_
      refine V_il1n dX12_race_29 ?_
      refine V_putI kk104 (by decide) fl_X12_493 rfl dX12_race_30 ?_
      refine V_al0n dX12_race_33 ?_
      refine V_il2n dX12_race_34 ?_
      refine V_putI kk104 (by decide) fl_X12_496 rfl dX12_race_35 ?_
      refine V_al0n dX12_race_38 ?_
      refine V_getR kk104 (by decide) fl_X12_112 (fx_104_81 hρ) dX12_race_39 ?_
      refine V_iconst dX12_race_42 ?_
      refine V_iconst dX12_race_43 ?_
      refine V_iast (k := 0) kk137 (by decide) (by first | rfl | omega) (by omega) (by first | decide | assumption | omega) dX12_race_44 ?_
      refine V_al0n dX12_race_45 ?_
      refine V_getR kk104 (by decide) fl_X12_112 (fx_104_81 hρ) dX12_race_46 ?_
      refine V_iconst dX12_race_49 ?_
      refine V_iconst dX12_race_50 ?_
      refine V_iast (k := 1) kk137 (by decide) (by first | rfl | omega) (by omega) (by first | decide | assumption | omega) dX12_race_51 ?_
      refine V_al0n dX12_race_52 ?_
      refine V_getR kk104 (by decide) fl_X12_112 (fx_104_81 hρ) dX12_race_53 ?_
      refine V_iconst dX12_race_56 ?_
      refine V_al0n dX12_race_57 ?_
      refine V_getR kk104 (by decide) fl_X12_39 (fx_104_36 hρ) dX12_race_58 ?_
      refine V_il1n dX12_race_61 ?_
      refine V_iald (k := mN) kk113 (by decide) (by first | rfl | omega) (by omega) (by first | decide | assumption | omega) (u2_n (by omega) (u2_n (by omega) (u2_n (by omega) (u2_n (by omega) (u2_n (by omega) (u2_n (by omega) (hT.at rfl (by omega : mN < 5)))))))) dX12_race_62 ?_
      refine V_iast (k := 2) kk137 (by decide) (by first | rfl | omega) (by omega) (by first | decide | assumption | omega) dX12_race_63 ?_
      refine V_al0n dX12_race_64 ?_
      refine V_getR kk104 (by decide) fl_X12_112 (fx_104_81 hρ) dX12_race_65 ?_
      refine V_iconst dX12_race_68 ?_
      refine V_al0n dX12_race_69 ?_
      refine V_getR kk104 (by decide) fl_X12_42 (fx_104_37 hρ) dX12_race_70 ?_
      refine V_il1n dX12_race_73 ?_
      refine V_iald (k := mN) kk114 (by decide) (by first | rfl | omega) (by omega) (by first | decide | assumption | omega) (u2_n (by omega) (u2_n (by omega) (u2_n (by omega) (u2_n (by omega) (u2_n (by omega) (u2_n (by omega) (u2_n (by omega) (hT.at rfl (by omega : mN < 5))))))))) dX12_race_74 ?_
      refine V_iast (k := 3) kk137 (by decide) (by first | rfl | omega) (by omega) (by first | decide | assumption | omega) dX12_race_75 ?_
      refine V_al0n dX12_race_76 ?_
      refine V_getR kk104 (by decide) fl_X12_112 (fx_104_81 hρ) dX12_race_77 ?_
      refine V_iconst dX12_race_80 ?_
      refine V_iconst dX12_race_81 ?_
      refine V_iast (k := 4) kk137 (by decide) (by first | rfl | omega) (by omega) (by first | decide | assumption | omega) dX12_race_82 ?_
      refine V_al0n dX12_race_83 ?_
      refine V_getR kk104 (by decide) fl_X12_112 (fx_104_81 hρ) dX12_race_84 ?_
      refine V_iconst dX12_race_87 ?_
      refine V_iconst dX12_race_88 ?_
      refine V_iast (k := 5) kk137 (by decide) (by first | rfl | omega) (by omega) (by first | decide | assumption | omega) dX12_race_89 ?_
      refine V_al0n dX12_race_90 ?_
      refine V_getR kk104 (by decide) fl_X12_112 (fx_104_81 hρ) dX12_race_91 ?_
      refine V_bipush dX12_race_94 rfl ?_
      refine V_al0n dX12_race_96 ?_
      refine V_getR kk104 (by decide) fl_X12_63 (fx_104_44 hρ) dX12_race_97 ?_
      refine V_il2n dX12_race_100 ?_
      refine V_iald (k := pN) kk121 (by decide) (by first | rfl | omega) (by omega) (by first | decide | assumption | omega) (u2_n (by omega) (u2_n (by omega) (u2_n (by omega) (u2_n (by omega) (u2_n (by omega) (u2_n (by omega) (u2_n (by omega) (u2_n (by omega) (u2_n (by omega) (u2_n (by omega) (hT.at rfl (by omega : pN < 5)))))))))))) dX12_race_101 ?_
      refine V_iast (k := 6) kk137 (by decide) (by first | rfl | omega) (by omega) (by first | decide | assumption | omega) dX12_race_102 ?_
      refine V_al0n dX12_race_103 ?_
      refine V_iconst dX12_race_104 ?_
      refine V_putI kk104 (by decide) fl_X12_295 rfl dX12_race_105 ?_
      refine V_iconst dX12_race_108 ?_
      exact V_zreturn rfl (by first | exact Or.inl rfl | exact Or.inr rfl | (unfold bz; split <;> simp)) ⟨by unfold okM okP; simp only [b10, b18]; rfl, rfl, by unfold raceF okM okP; simp only [b10, b18]; simp only [Bool.and_self, if_true, Int.toNat_natCast]; exact km_cg (km_cg (km_cg (km_cg (km_cg (km_cg (km_cg (km_cg (km_cg (km_cg (km_cg (KM.u2 rfl KM.rf))))))))))), KM.rf⟩ dX12_race_109
    · refine V_iconst dX12_race_21 ?_
      exact V_zreturn rfl (by first | exact Or.inl rfl | exact Or.inr rfl | (unfold bz; split <;> simp)) ⟨by unfold okM okP; simp only [*]; simp [bz], rfl, by unfold raceF okM okP; simp only [*]; simp; exact KM.u2 rfl KM.rf, KM.rf⟩ dX12_race_22
def going (T : TT) (f : IT) : Bool := decide (f 104 78 = 1) && decide (0 < f 137 3) && decide (f 137 0 < allS T)
theorem c_isGoing {T : TT} {ρ : RT} {f : IT} {g : JT} (hρ : Fx ρ) (hT : MT T f) (hk : TOK T) (h78 : f 104 78 = 0 ∨ f 104 78 = 1) (r3 : ri (f 137 3)) (r0 : ri (f 137 0)) :
    C_X12_isGoing [.ref 104] ρ f g (fun r ρ' f' g' => r = some (.int (iz (bz (going T f)))) ∧ ρ' = ρ ∧ f' = f ∧ g' = g) := by
  have h6 := hk.la
  have hall := allS_rng hk
  unfold allS at hall
  refine Ct.ofV (by decide) rfl (Nat.le_of_ble_eq_true rfl) ?_
  refine V_al0n dX12_isGoing_0 ?_
  refine V_getZ kk104 (by decide) fl_X12_292 rfl dX12_isGoing_1 ?_
  refine V_if_eq (tgt := 33) dX12_isGoing_4 rfl (by first | assumption | (unfold ri at *; omega)) (fun b4 => ?_) (fun b4 => ?_)
  · refine V_iconst dX12_isGoing_33 ?_
    exact V_zreturn rfl (by first | exact Or.inl rfl | exact Or.inr rfl | (unfold bz; split <;> simp)) ⟨by unfold going allS; simp only [bz]; congr 3; split <;> (rename_i e; simp at e) <;> omega, rfl, rfl, rfl⟩ dX12_isGoing_34
  · refine V_al0n dX12_isGoing_7 ?_
    refine V_getR kk104 (by decide) fl_X12_112 (fx_104_81 hρ) dX12_isGoing_8 ?_
    refine V_iconst dX12_isGoing_11 ?_
    refine V_iald (k := 3) kk137 (by decide) (by first | rfl | omega) (by omega) (by first | decide | assumption | omega) rfl dX12_isGoing_12 ?_
    refine V_if_le (tgt := 33) dX12_isGoing_13 rfl (by first | assumption | (unfold ri at *; omega)) (fun b13 => ?_) (fun b13 => ?_)
    · refine V_iconst dX12_isGoing_33 ?_
      exact V_zreturn rfl (by first | exact Or.inl rfl | exact Or.inr rfl | (unfold bz; split <;> simp)) ⟨by unfold going allS; simp only [bz]; congr 3; split <;> (rename_i e; simp at e) <;> omega, rfl, rfl, rfl⟩ dX12_isGoing_34
    · refine V_al0n dX12_isGoing_16 ?_
      refine V_getR kk104 (by decide) fl_X12_112 (fx_104_81 hρ) dX12_isGoing_17 ?_
      refine V_iconst dX12_isGoing_20 ?_
      refine V_iald (k := 0) kk137 (by decide) (by first | rfl | omega) (by omega) (by first | decide | assumption | omega) rfl dX12_isGoing_21 ?_
      refine V_al0n dX12_isGoing_22 ?_
      refine V_callV (as := []) ml_X12_476 im_X12_allSteps se_X12_allSteps kk104 (by decide) (by decide) dX12_isGoing_23 rfl rfl (by decide) (by decide) (Nat.le_of_ble_eq_true rfl) (by decide) (by decide) rfl (c_allSteps hρ h6.2 ((hT 104 12 rfl).trans h6.1) (s := T 108) (fun k hk => hT.at rfl (by omega : k < 6))) ?_
      refine pq4 ?_
      refine V_icmp_ge (tgt := 33) dX12_isGoing_26 rfl (by first | assumption | (unfold ri at *; omega)) (by first | assumption | (unfold ri at *; omega)) (fun b26 => ?_) (fun b26 => ?_)
      · refine V_iconst dX12_isGoing_33 ?_
        exact V_zreturn rfl (by first | exact Or.inl rfl | exact Or.inr rfl | (unfold bz; split <;> simp)) ⟨by unfold going allS; simp only [bz]; congr 3; split <;> (rename_i e; simp at e) <;> omega, rfl, rfl, rfl⟩ dX12_isGoing_34
      · refine V_iconst dX12_isGoing_29 ?_
        refine V_goto (tgt := 34) dX12_isGoing_30 rfl ?_
        exact V_zreturn rfl (by first | exact Or.inl rfl | exact Or.inr rfl | (unfold bz; split <;> simp)) ⟨by unfold going allS; simp only [bz]; congr 3; split <;> (rename_i e; simp at e) <;> omega, rfl, rfl, rfl⟩ dX12_isGoing_34
def rpF (T : TT) (f : IT) : Int := if 0 < f 137 5 then f 137 5 else pce T (f 104 80).toNat (lat T (f 137 0))
theorem c_racePace {T : TT} {ρ : RT} {f : IT} {g : JT} (hρ : Fx ρ) (hT : MT T f) (hk : TOK T) (r5 : ri (f 137 5)) (h0 : 0 ≤ f 137 0 ∧ f 137 0 < allS T) (hp : 0 ≤ f 104 80 ∧ f 104 80 < (nPl T : Int)) :
    C_X12_racePace [.ref 104] ρ f g (fun r ρ' f' g' => r = some (.int (iz (rpF T f))) ∧ ρ' = ρ ∧ f' = f ∧ g' = g) := by
  have h6 := hk.la
  have hall := allS_rng hk
  have hl := lat_lt hk h0
  have ep : f 104 80 = (((f 104 80).toNat : Nat) : Int) := by omega
  unfold rpF
  refine Ct.ofV (by decide) rfl (Nat.le_of_ble_eq_true rfl) ?_
  refine V_al0n dX12_racePace_0 ?_
  refine V_getR kk104 (by decide) fl_X12_112 (fx_104_81 hρ) dX12_racePace_1 ?_
  refine V_iconst dX12_racePace_4 ?_
  refine V_iald (k := 5) kk137 (by decide) (by first | rfl | omega) (by omega) (by first | decide | assumption | omega) rfl dX12_racePace_5 ?_
  refine V_if_le (tgt := 18) dX12_racePace_6 rfl (by first | assumption | (unfold ri at *; omega)) (fun b6 => ?_) (fun b6 => ?_)
  · refine V_al0n dX12_racePace_18 ?_
    refine V_al0n dX12_racePace_19 ?_
    refine V_getI kk104 (by decide) fl_X12_496 ep dX12_racePace_20 ?_
    refine V_al0n dX12_racePace_23 ?_
    refine V_al0n dX12_racePace_24 ?_
    refine V_getR kk104 (by decide) fl_X12_112 (fx_104_81 hρ) dX12_racePace_25 ?_
    refine V_iconst dX12_racePace_28 ?_
    refine V_iald (k := 0) kk137 (by decide) (by first | rfl | omega) (by omega) (by first | decide | assumption | omega) rfl dX12_racePace_29 ?_
    refine V_callV (as := [_]) ml_X12_479 im_X12_laneAt se_X12_laneAt kk104 (by decide) (by decide) dX12_racePace_30 rfl rfl (by decide) (by decide) (Nat.le_of_ble_eq_true rfl) (by decide) (by decide) rfl (c_laneAt hρ hT hk (by omega)) ?_
    refine pq4 ?_
    refine V_callV (as := [_, _]) ml_X12_459 im_X12_paceOf se_X12_paceOf kk104 (by decide) (by decide) dX12_racePace_33 rfl rfl (by decide) (by decide) (Nat.le_of_ble_eq_true rfl) (by decide) (by decide) rfl (c_paceOf hρ hT hk (by omega) (by omega)) ?_
    refine pq4 ?_
    exact V_ireturn rfl ⟨by congr 3; split <;> first | rfl | (exfalso; omega), rfl, rfl, rfl⟩ dX12_racePace_36
  · refine V_al0n dX12_racePace_9 ?_
    refine V_getR kk104 (by decide) fl_X12_112 (fx_104_81 hρ) dX12_racePace_10 ?_
    refine V_iconst dX12_racePace_13 ?_
    refine V_iald (k := 5) kk137 (by decide) (by first | rfl | omega) (by omega) (by first | decide | assumption | omega) rfl dX12_racePace_14 ?_
    refine V_goto (tgt := 36) dX12_racePace_15 rfl ?_
    exact V_ireturn rfl ⟨by congr 3; split <;> first | rfl | (exfalso; omega), rfl, rfl, rfl⟩ dX12_racePace_36

