theorem c_going2 {T : TT} {ρ : RT} {f f0 : IT} {g : JT} (hρ : Fx ρ) (hT : MT T f) (hk : TOK T) (km : KM f0 f) (hR : RcK T f0) :
    C_X12_isGoing [.ref 104] ρ f g (fun r ρ' f' g' => r = some (.int (iz (bz (going T f0)))) ∧ ρ' = ρ ∧ f' = f ∧ g' = g) := by
  by_cases e : f0 104 78 = 1
  · exact c_going hρ hT hk km hR (Or.inl e)
  · have e0 : f 104 78 = 0 := by rw [km 104 78 rfl]; have := hR.1; omega
    have eg : going T f0 = false := by unfold going; simp [e]
    refine Ct.ofV (by decide) rfl (Nat.le_of_ble_eq_true rfl) ?_
    refine V_al0n dX12_isGoing_0 ?_
    refine V_getZ kk104 (by decide) fl_X12_292 e0 dX12_isGoing_1 ?_
    refine V_if_eq (tgt := 33) dX12_isGoing_4 rfl (by first | assumption | (unfold ri at *; omega)) (fun b4 => ?_) (fun b4 => ?_)
    · refine V_iconst dX12_isGoing_33 ?_
      exact V_zreturn rfl (by first | exact Or.inl rfl | exact Or.inr rfl | (unfold bz; split <;> simp)) ⟨by rw [eg]; rfl, rfl, rfl, rfl⟩ dX12_isGoing_34
    · exfalso; omega
theorem c_racePace2 {T : TT} {ρ : RT} {f f0 : IT} {g : JT} (hρ : Fx ρ) (hT : MT T f) (hk : TOK T) (km : KM f0 f) (hR : RcK T f0) (hg : going T f0 = true) :
    C_X12_racePace [.ref 104] ρ f g (fun r ρ' f' g' => r = some (.int (iz (rpF T f0))) ∧ ρ' = ρ ∧ f' = f ∧ g' = g) := by
  have hg' := hg
  unfold going at hg'
  simp at hg'
  obtain ⟨⟨h1, h2⟩, h3⟩ := hg'
  obtain ⟨w1, w2, w3, w4, w5, w6, w7⟩ := hR.2 h1
  rw [← rpF_km km]
  exact c_racePace hρ hT hk (by rw [km 137 5 rfl]; unfold ri; omega) (by rw [km 137 0 rfl]; omega) (by rw [km 104 80 rfl]; omega)
def aNow (T : TT) (w : Int) (f : IT) : Int := if f 104 78 = 1 then (if 0 ≤ w ∧ w ≤ 4 then f 137 w.toNat else if w = 5 then (if f 137 3 = 0 then 2 else if going T f = true then 0 else 1) else if w = 6 then (if going T f = true then (if f 137 2 = 0 then 1 else rpF T f) else 0) else if w = 7 then f 137 6 else -1) else -1
theorem c_mnow {T : TT} {ρ : RT} {f : IT} {g : JT} (hρ : Fx ρ) (hT : MT T f) (hk : TOK T) (hR : RcK T f) {w : Int} (rw_ : ri w) :
    C_X12_now [.ref 104, .int (iz w)] ρ f g (fun r ρ' f' g' => r = some (.int (iz (aNow T w f))) ∧ ρ' = ρ ∧ KM f f' ∧ KM g g') := by
  have hz := hR.1
  have k0 : KM f (u2 f 104 2 0) := KM.u2 rfl KM.rf
  have hT1 : MT T (u2 f 104 2 0) := hT.km k0
  have h1 := fun h => hR.2 h
  unfold RWf at h1
  have hall := allS_rng hk
  refine Ct.ofV (by decide) rfl (Nat.le_of_ble_eq_true rfl) ?_
  refine V_al0n dX12_now_0 ?_
  refine V_iconst dX12_now_1 ?_
  refine V_putI kk104 (by decide) fl_X12_154 rfl dX12_now_2 ?_
  refine V_al0n dX12_now_5 ?_
  refine V_getZ kk104 (by decide) fl_X12_292 (u2_n (by decide) rfl) dX12_now_6 ?_
  refine V_if_ne (tgt := 14) dX12_now_9 rfl (by first | assumption | (unfold ri at *; omega)) (fun b9 => ?_) (fun b9 => ?_)
  · have e9 : f 104 78 = 1 := by omega
    have h2 := h1 e9
    have hm2 := hk.man (k := (f 104 79).toNat) (by omega)
    unfold aNow
    rw [if_pos e9]
    refine V_il1n dX12_now_14 ?_
    rcases (show w = 0 ∨ w = 1 ∨ w = 2 ∨ w = 3 ∨ w = 4 ∨ w = 5 ∨ w = 6 ∨ w = 7 ∨ (w < 0 ∨ 7 < w) by omega) with ew | ew | ew | ew | ew | ew | ew | ew | ew
    · refine V_tabIn (tgt := 60) (i := 0) dX12_now_15 (by first | rfl | omega) (by decide) (by first | decide | assumption | (unfold ri at *; omega)) rfl rfl ?_
      refine V_al0n dX12_now_60 ?_
      refine V_getR kk104 (by decide) fl_X12_112 (fx_104_81 hρ) dX12_now_61 ?_
      refine V_il1n dX12_now_64 ?_
      refine V_iald (k := w.toNat) kk137 (by decide) (by first | rfl | omega) (by omega) (by first | decide | assumption | omega) (u2_n (by omega) rfl) dX12_now_65 ?_
      exact V_ireturn rfl ⟨by rw [if_pos (by omega)], rfl, k0, KM.rf⟩ dX12_now_66
    · refine V_tabIn (tgt := 60) (i := 1) dX12_now_15 (by first | rfl | omega) (by decide) (by first | decide | assumption | (unfold ri at *; omega)) rfl rfl ?_
      refine V_al0n dX12_now_60 ?_
      refine V_getR kk104 (by decide) fl_X12_112 (fx_104_81 hρ) dX12_now_61 ?_
      refine V_il1n dX12_now_64 ?_
      refine V_iald (k := w.toNat) kk137 (by decide) (by first | rfl | omega) (by omega) (by first | decide | assumption | omega) (u2_n (by omega) rfl) dX12_now_65 ?_
      exact V_ireturn rfl ⟨by rw [if_pos (by omega)], rfl, k0, KM.rf⟩ dX12_now_66
    · refine V_tabIn (tgt := 60) (i := 2) dX12_now_15 (by first | rfl | omega) (by decide) (by first | decide | assumption | (unfold ri at *; omega)) rfl rfl ?_
      refine V_al0n dX12_now_60 ?_
      refine V_getR kk104 (by decide) fl_X12_112 (fx_104_81 hρ) dX12_now_61 ?_
      refine V_il1n dX12_now_64 ?_
      refine V_iald (k := w.toNat) kk137 (by decide) (by first | rfl | omega) (by omega) (by first | decide | assumption | omega) (u2_n (by omega) rfl) dX12_now_65 ?_
      exact V_ireturn rfl ⟨by rw [if_pos (by omega)], rfl, k0, KM.rf⟩ dX12_now_66
    · refine V_tabIn (tgt := 60) (i := 3) dX12_now_15 (by first | rfl | omega) (by decide) (by first | decide | assumption | (unfold ri at *; omega)) rfl rfl ?_
      refine V_al0n dX12_now_60 ?_
      refine V_getR kk104 (by decide) fl_X12_112 (fx_104_81 hρ) dX12_now_61 ?_
      refine V_il1n dX12_now_64 ?_
      refine V_iald (k := w.toNat) kk137 (by decide) (by first | rfl | omega) (by omega) (by first | decide | assumption | omega) (u2_n (by omega) rfl) dX12_now_65 ?_
      exact V_ireturn rfl ⟨by rw [if_pos (by omega)], rfl, k0, KM.rf⟩ dX12_now_66
    · refine V_tabIn (tgt := 60) (i := 4) dX12_now_15 (by first | rfl | omega) (by decide) (by first | decide | assumption | (unfold ri at *; omega)) rfl rfl ?_
      refine V_al0n dX12_now_60 ?_
      refine V_getR kk104 (by decide) fl_X12_112 (fx_104_81 hρ) dX12_now_61 ?_
      refine V_il1n dX12_now_64 ?_
      refine V_iald (k := w.toNat) kk137 (by decide) (by first | rfl | omega) (by omega) (by first | decide | assumption | omega) (u2_n (by omega) rfl) dX12_now_65 ?_
      exact V_ireturn rfl ⟨by rw [if_pos (by omega)], rfl, k0, KM.rf⟩ dX12_now_66
    · refine V_tabIn (tgt := 67) (i := 5) dX12_now_15 (by first | rfl | omega) (by decide) (by first | decide | assumption | (unfold ri at *; omega)) rfl rfl ?_
      refine V_al0n dX12_now_67 ?_
      refine V_getR kk104 (by decide) fl_X12_112 (fx_104_81 hρ) dX12_now_68 ?_
      refine V_iconst dX12_now_71 ?_
      refine V_iald (k := 3) kk137 (by decide) (by first | rfl | omega) (by omega) (by first | decide | assumption | omega) (u2_n (by decide) rfl) dX12_now_72 ?_
      refine V_if_ne (tgt := 80) dX12_now_73 rfl (by first | assumption | (unfold ri at *; omega)) (fun b73 => ?_) (fun b73 => ?_)
      · refine V_al0n dX12_now_80 ?_
        refine V_callV (as := []) ml_X12_508 im_X12_isGoing se_X12_isGoing kk104 (by decide) (by decide) dX12_now_81 rfl rfl (by decide) (by decide) (Nat.le_of_ble_eq_true rfl) (by decide) (by decide) rfl (c_going2 hρ hT1 hk k0 hR) ?_
        refine pq4 ?_
        refine V_bt (tgt := 91) dX12_now_84 rfl (fun b84 => ?_) (fun b84 => ?_)
        · refine V_iconst dX12_now_91 ?_
          exact V_ireturn rfl ⟨by simp [*], rfl, k0, KM.rf⟩ dX12_now_92
        · refine V_iconst dX12_now_87 ?_
          refine V_goto (tgt := 92) dX12_now_88 rfl ?_
          exact V_ireturn rfl ⟨by simp [*], rfl, k0, KM.rf⟩ dX12_now_92
      · refine V_iconst dX12_now_76 ?_
        refine V_goto (tgt := 92) dX12_now_77 rfl ?_
        exact V_ireturn rfl ⟨by simp [*], rfl, k0, KM.rf⟩ dX12_now_92
    · refine V_tabIn (tgt := 93) (i := 6) dX12_now_15 (by first | rfl | omega) (by decide) (by first | decide | assumption | (unfold ri at *; omega)) rfl rfl ?_
      refine V_al0n dX12_now_93 ?_
      refine V_callV (as := []) ml_X12_508 im_X12_isGoing se_X12_isGoing kk104 (by decide) (by decide) dX12_now_94 rfl rfl (by decide) (by decide) (Nat.le_of_ble_eq_true rfl) (by decide) (by decide) rfl (c_going2 hρ hT1 hk k0 hR) ?_
      refine pq4 ?_
      refine V_bf (tgt := 104) dX12_now_97 rfl (fun b97 => ?_) (fun b97 => ?_)
      · refine V_al0n dX12_now_104 ?_
        refine V_getR kk104 (by decide) fl_X12_112 (fx_104_81 hρ) dX12_now_105 ?_
        refine V_iconst dX12_now_108 ?_
        refine V_iald (k := 2) kk137 (by decide) (by first | rfl | omega) (by omega) (by first | decide | assumption | omega) (u2_n (by decide) rfl) dX12_now_109 ?_
        refine V_if_ne (tgt := 117) dX12_now_110 rfl (by first | assumption | (unfold ri at *; omega)) (fun b110 => ?_) (fun b110 => ?_)
        · refine V_al0n dX12_now_117 ?_
          refine V_callV (as := []) ml_X12_502 im_X12_racePace se_X12_racePace kk104 (by decide) (by decide) dX12_now_118 rfl rfl (by decide) (by decide) (Nat.le_of_ble_eq_true rfl) (by decide) (by decide) rfl (c_racePace2 hρ hT1 hk k0 hR (by assumption)) ?_
          refine pq4 ?_
          exact V_ireturn rfl ⟨by simp [*], rfl, k0, KM.rf⟩ dX12_now_121
        · refine V_iconst dX12_now_113 ?_
          refine V_goto (tgt := 121) dX12_now_114 rfl ?_
          exact V_ireturn rfl ⟨by simp [*], rfl, k0, KM.rf⟩ dX12_now_121
      · refine V_iconst dX12_now_100 ?_
        refine V_goto (tgt := 121) dX12_now_101 rfl ?_
        exact V_ireturn rfl ⟨by simp [*], rfl, k0, KM.rf⟩ dX12_now_121
    · refine V_tabIn (tgt := 122) (i := 7) dX12_now_15 (by first | rfl | omega) (by decide) (by first | decide | assumption | (unfold ri at *; omega)) rfl rfl ?_
      refine V_al0n dX12_now_122 ?_
      refine V_getR kk104 (by decide) fl_X12_112 (fx_104_81 hρ) dX12_now_123 ?_
      refine V_bipush dX12_now_126 rfl ?_
      refine V_iald (k := 6) kk137 (by decide) (by first | rfl | omega) (by omega) (by first | decide | assumption | omega) (u2_n (by decide) rfl) dX12_now_128 ?_
      exact V_ireturn rfl ⟨by simp [ew], rfl, k0, KM.rf⟩ dX12_now_129
    · refine V_tabOut (tgt := 130) dX12_now_15 (by omega) (by first | assumption | (unfold ri at *; omega)) rfl ?_
      refine V_iconst dX12_now_130 ?_
      exact V_ireturn rfl ⟨by rw [if_neg (by omega), if_neg (by omega), if_neg (by omega), if_neg (by omega)], rfl, k0, KM.rf⟩ dX12_now_131
  · have e9 : f 104 78 = 0 := b9
    refine V_iconst dX12_now_12 ?_
    exact V_ireturn rfl ⟨by unfold aNow; rw [if_neg (by omega)], rfl, k0, KM.rf⟩ dX12_now_13
def pcdO (T : TT) (n : Int) (f : IT) : Bool := going T f && zin n 0 9
def pcdF (T : TT) (n : Int) (f : IT) : IT := if pcdO T n f = true then u2 f 137 5 n else f
theorem c_mpaced {T : TT} {ρ : RT} {f : IT} {g : JT} (hρ : Fx ρ) (hT : MT T f) (hk : TOK T) (hR : RcK T f) {n : Int} (rn_ : ri n) :
    C_X12_paced [.ref 104, .int (iz n)] ρ f g (fun r ρ' f' g' => r = some (.int (iz (bz (pcdO T n f)))) ∧ ρ' = ρ ∧ KM (pcdF T n f) f' ∧ KM g g') := by
  have k0 : KM f (u2 f 104 2 0) := KM.u2 rfl KM.rf
  have hT1 : MT T (u2 f 104 2 0) := hT.km k0
  refine Ct.ofV (by decide) rfl (Nat.le_of_ble_eq_true rfl) ?_
  refine V_al0n dX12_paced_0 ?_
  refine V_iconst dX12_paced_1 ?_
  refine V_putI kk104 (by decide) fl_X12_154 rfl dX12_paced_2 ?_
  refine V_al0n dX12_paced_5 ?_
  refine V_callV (as := []) ml_X12_508 im_X12_isGoing se_X12_isGoing kk104 (by decide) (by decide) dX12_paced_6 rfl rfl (by decide) (by decide) (Nat.le_of_ble_eq_true rfl) (by decide) (by decide) rfl (c_going2 hρ hT1 hk k0 hR) ?_
  refine pq4 ?_
  refine V_bt (tgt := 22) dX12_paced_9 rfl (fun b9 => ?_) (fun b9 => ?_)
  · refine V_iconst dX12_paced_22 ?_
    exact V_zreturn rfl (by first | exact Or.inl rfl | exact Or.inr rfl | (unfold bz; split <;> simp)) ⟨by unfold pcdO; simp [*, bz], rfl, by unfold pcdF pcdO; simp [*] <;> exact k0, KM.rf⟩ dX12_paced_23
  · refine V_il1n dX12_paced_12 ?_
    refine V_iconst dX12_paced_13 ?_
    refine V_bipush dX12_paced_14 rfl ?_
    refine V_callS (as := [_, _, _]) ml_X12_199 sm_X12_isIn dX12_paced_16 rfl rfl (by decide) (by decide) (Nat.le_of_ble_eq_true rfl) (by decide) (by decide) rfl (c_isIn rn_ (by unfold ri; omega) (by unfold ri; omega)) ?_
    refine pq4 ?_
    refine V_bf (tgt := 24) dX12_paced_19 rfl (fun b19 => ?_) (fun b19 => ?_)
    · refine V_al0n dX12_paced_24 ?_
      refine V_getR kk104 (by decide) fl_X12_112 (fx_104_81 hρ) dX12_paced_25 ?_
      refine V_iconst dX12_paced_28 ?_
      refine V_il1n dX12_paced_29 ?_
      refine V_iast (k := 5) kk137 (by decide) (by first | rfl | omega) (by omega) (by first | decide | assumption | omega) dX12_paced_30 ?_
      refine V_iconst dX12_paced_31 ?_
      exact V_zreturn rfl (by first | exact Or.inl rfl | exact Or.inr rfl | (unfold bz; split <;> simp)) ⟨by unfold pcdO; simp [*, bz], rfl, by unfold pcdF pcdO; simp [*] <;> exact km_cg k0, KM.rf⟩ dX12_paced_32
    · refine V_iconst dX12_paced_22 ?_
      exact V_zreturn rfl (by first | exact Or.inl rfl | exact Or.inr rfl | (unfold bz; split <;> simp)) ⟨by unfold pcdO; simp [*, bz], rfl, by unfold pcdF pcdO; simp [*] <;> exact k0, KM.rf⟩ dX12_paced_23
def shfO (T : TT) (h : Int) (f : IT) : Bool := going T f && okH T h && decide (f 137 6 ≠ h)
def shfF (T : TT) (h : Int) (f : IT) : IT := if shfO T h f = true then u2 (u2 f 137 6 h) 137 1 (f 137 1 + T 119 h.toNat) else f
theorem c_mshift {T : TT} {ρ : RT} {f : IT} {g : JT} (hρ : Fx ρ) (hT : MT T f) (hk : TOK T) (hR : RcK T f) {h : Int} (rh : ri h) :
    C_X12_shift [.ref 104, .int (iz h)] ρ f g (fun r ρ' f' g' => r = some (.int (iz (if shfO T h f = true then T 119 h.toNat else -1))) ∧ ρ' = ρ ∧ KM (shfF T h f) f' ∧ KM g g') := by
  have k0 : KM f (u2 f 104 2 0) := KM.u2 rfl KM.rf
  have hT1 : MT T (u2 f 104 2 0) := hT.km k0
  have h5 := hk.ho
  have h1 := fun h => hR.2 h
  unfold RWf at h1
  refine Ct.ofV (by decide) rfl (Nat.le_of_ble_eq_true rfl) ?_
  refine V_al0n dX12_shift_0 ?_
  refine V_iconst dX12_shift_1 ?_
  refine V_putI kk104 (by decide) fl_X12_154 rfl dX12_shift_2 ?_
  refine V_al0n dX12_shift_5 ?_
  refine V_callV (as := []) ml_X12_508 im_X12_isGoing se_X12_isGoing kk104 (by decide) (by decide) dX12_shift_6 rfl rfl (by decide) (by decide) (Nat.le_of_ble_eq_true rfl) (by decide) (by decide) rfl (c_going2 hρ hT1 hk k0 hR) ?_
  refine pq4 ?_
  refine V_bt (tgt := 31) dX12_shift_9 rfl (fun b9 => ?_) (fun b9 => ?_)
  · refine V_iconst dX12_shift_31 ?_
    exact V_ireturn rfl ⟨by unfold shfO okH; simp [*], rfl, by unfold shfF shfO okH; simp [*] <;> exact k0, KM.rf⟩ dX12_shift_32
  · have hg' := b9
    unfold going at hg'
    simp at hg'
    have h2 := h1 hg'.1.1
    refine V_al0n dX12_shift_12 ?_
    refine V_il1n dX12_shift_13 ?_
    refine V_callV (as := [_]) ml_X12_514 im_X12_isHold se_X12_isHold kk104 (by decide) (by decide) dX12_shift_14 rfl rfl (by decide) (by decide) (Nat.le_of_ble_eq_true rfl) (by decide) (by decide) rfl (c_isHold rh ((hT1 104 14 rfl).trans h5.1) (by unfold ri; omega)) ?_
    refine pq4 ?_
    refine V_bt (tgt := 31) dX12_shift_17 rfl (fun b17 => ?_) (fun b17 => ?_)
    · refine V_iconst dX12_shift_31 ?_
      exact V_ireturn rfl ⟨by unfold shfO okH; simp [*], rfl, by unfold shfF shfO okH; simp [*] <;> exact k0, KM.rf⟩ dX12_shift_32
    · refine V_al0n dX12_shift_20 ?_
      refine V_getR kk104 (by decide) fl_X12_112 (fx_104_81 hρ) dX12_shift_21 ?_
      refine V_bipush dX12_shift_24 rfl ?_
      refine V_iald (k := 6) kk137 (by decide) (by first | rfl | omega) (by omega) (by first | decide | assumption | omega) (u2_n (by decide) rfl) dX12_shift_26 ?_
      refine V_il1n dX12_shift_27 ?_
      refine V_icmp_ne (tgt := 33) dX12_shift_28 rfl (by first | assumption | (unfold ri at *; omega)) (by first | assumption | (unfold ri at *; omega)) (fun b28 => ?_) (fun b28 => ?_)
      · have c1 := b17
        simp only [decide_eq_true_eq] at c1
        obtain ⟨hN, rfl⟩ : ∃ n : Nat, h = n := ⟨h.toNat, by omega⟩
        refine V_al0n dX12_shift_33 ?_
        refine V_getR kk104 (by decide) fl_X12_112 (fx_104_81 hρ) dX12_shift_34 ?_
        refine V_bipush dX12_shift_37 rfl ?_
        refine V_il1n dX12_shift_39 ?_
        refine V_iast (k := 6) kk137 (by decide) (by first | rfl | omega) (by omega) (by first | decide | assumption | omega) dX12_shift_40 ?_
        refine V_al0n dX12_shift_41 ?_
        refine V_getR kk104 (by decide) fl_X12_112 (fx_104_81 hρ) dX12_shift_42 ?_
        refine V_iconst dX12_shift_45 ?_
        refine V_dup2 dX12_shift_46 rfl rfl ?_
        refine V_iald (k := 1) kk137 (by decide) (by first | rfl | omega) (by omega) (by first | decide | assumption | omega) (u2_n (by decide) (u2_n (by decide) rfl)) dX12_shift_47 ?_
        refine V_al0n dX12_shift_48 ?_
        refine V_getR kk104 (by decide) fl_X12_57 (fx_104_42 hρ) dX12_shift_49 ?_
        refine V_il1n dX12_shift_52 ?_
        refine V_iald (k := hN) kk119 (by decide) (by first | rfl | omega) (by omega) (by first | decide | assumption | omega) (u2_n (by omega) (u2_n (by omega) (hT.at rfl (by omega : hN < 3)))) dX12_shift_53 ?_
        refine V_iadd dX12_shift_54 ?_
        refine V_iast (k := 1) kk137 (by decide) (by first | rfl | omega) (by omega) (by first | decide | assumption | omega) dX12_shift_55 ?_
        refine V_al0n dX12_shift_56 ?_
        refine V_getR kk104 (by decide) fl_X12_57 (fx_104_42 hρ) dX12_shift_57 ?_
        refine V_il1n dX12_shift_60 ?_
        refine V_iald (k := hN) kk119 (by decide) (by first | rfl | omega) (by omega) (by first | decide | assumption | omega) (u2_n (by omega) (u2_n (by omega) (u2_n (by omega) (hT.at rfl (by omega : hN < 3))))) dX12_shift_61 ?_
        exact V_ireturn rfl ⟨by unfold shfO okH; simp only [b9, b17]; simp [b28], rfl, by unfold shfF shfO okH; simp only [b9, b17]; simp [b28]; exact km_cg (km_cg k0), KM.rf⟩ dX12_shift_62
      · refine V_iconst dX12_shift_31 ?_
        exact V_ireturn rfl ⟨by unfold shfO okH; simp [*], rfl, by unfold shfF shfO okH; simp [*] <;> exact k0, KM.rf⟩ dX12_shift_32
/-- part of a row laid over another -/
def cpR (f : IT) (a b o i : Nat) : IT := fun c k => if c = a ∧ k < i then f b (o + k) else f c k
theorem cpR_0 {f : IT} {a b o : Nat} : cpR f a b o 0 = f := by funext c k; unfold cpR; rw [if_neg (by omega)]
theorem cpR_s {f : IT} {a b o i : Nat} (h : a ≠ b) : u2 (cpR f a b o i) a i (f b (o + i)) = cpR f a b o (i + 1) := by
  funext c k
  unfold u2 cpR
  by_cases ha : c = a
  · subst ha
    by_cases hk : k = i
    · subst hk; simp
    · simp [hk]
      by_cases h2 : k < i
      · rw [if_pos h2, if_pos (by omega)]
      · rw [if_neg h2, if_neg (by omega)]
  · simp [ha]
theorem cpR_b {f : IT} {a b o i k : Nat} (h : a ≠ b) : cpR f a b o i b k = f b k := by unfold cpR; rw [if_neg (fun q => h q.1.symm)]
theorem cpR_o {f : IT} {a b o i c k : Nat} (h : c ≠ a) : cpR f a b o i c k = f c k := by unfold cpR; rw [if_neg (fun q => h q.1)]
theorem km_cpR {f f' : IT} {a b o i : Nat} (hb : ∀ k, scM b k = false) (h : KM f f') : KM (cpR f a b o i) (cpR f' a b o i) := fun c k hs => by
  unfold cpR
  split
  · exact h b _ (hb _)
  · exact h c k hs
def undF (f : IT) : IT := if f 104 82 = 0 then f else cpR (u2 f 104 82 (f 104 82 - 1)) 137 138 (8 * (f 104 82 - 1).toNat) 7
def undG (f : IT) (g : JT) : JT := if f 104 82 = 0 then g else u2 g 104 69 (f 138 (8 * (f 104 82 - 1).toNat + 7))
theorem w_und26 {Q : QT} {ρ : RT} {f : IT} {g : JT} (hρ : Fx ρ) {u : Nat} (hu : u < 20) (h82 : f 104 82 = (u : Int)) (hd : ri (f 138 (8 * u + 7))) (hX : Q (some (.int (iz (u : Int)))) ρ (cpR f 137 138 (8 * u) 7) (u2 g 104 69 (f 138 (8 * u + 7)))) (i : Nat) (hi : i ≤ 7) : V_X12_undo Q 26 [.ref 104, .int (iz (i : Int))] [] ρ (cpR f 137 138 (8 * u) i) g := by
  have h8 : ∀ j, cpR f 137 138 (8 * u) j 104 82 = (u : Int) := fun j => (cpR_o (by omega)).trans h82
  by_cases e : i = 7
  · subst e
    refine V_il1n dX12_undo_26 ?_
    refine V_bipush dX12_undo_27 rfl ?_
    refine V_icmp_ge (tgt := 58) dX12_undo_29 rfl (by first | assumption | (unfold ri at *; omega)) (by first | assumption | (unfold ri at *; omega)) (fun b29 => ?_) (fun b29 => ?_)
    · refine V_al0n dX12_undo_58 ?_
      refine V_al0n dX12_undo_59 ?_
      refine V_getR kk104 (by decide) fl_X12_115 (fx_104_83 hρ) dX12_undo_60 ?_
      refine V_bipush dX12_undo_63 rfl ?_
      refine V_al0n dX12_undo_65 ?_
      refine V_getI kk104 (by decide) fl_X12_295 (h8 7) dX12_undo_66 ?_
      refine V_imul dX12_undo_69 ?_
      refine V_bipush dX12_undo_70 rfl ?_
      refine V_iadd dX12_undo_72 ?_
      refine V_iald (k := 8 * u + 7) kk138 (by decide) (by first | rfl | omega) (by omega) (by first | decide | assumption | omega) (cpR_b (by omega)) dX12_undo_73 ?_
      refine V_i2l dX12_undo_74 (by first | assumption | (unfold ri at *; omega)) ?_
      refine V_putJ kk104 (by decide) fl_X12_288 rfl dX12_undo_75 ?_
      refine V_al0n dX12_undo_78 ?_
      refine V_getI kk104 (by decide) fl_X12_295 (h8 7) dX12_undo_79 ?_
      exact V_ireturn rfl hX dX12_undo_82
    · exfalso; omega
  · refine V_il1n dX12_undo_26 ?_
    refine V_bipush dX12_undo_27 rfl ?_
    refine V_icmp_ge (tgt := 58) dX12_undo_29 rfl (by first | assumption | (unfold ri at *; omega)) (by first | assumption | (unfold ri at *; omega)) (fun b29 => ?_) (fun b29 => ?_)
    · exfalso; omega
    · refine V_al0n dX12_undo_32 ?_
      refine V_getR kk104 (by decide) fl_X12_112 (fx_104_81 hρ) dX12_undo_33 ?_
      refine V_il1n dX12_undo_36 ?_
      refine V_al0n dX12_undo_37 ?_
      refine V_getR kk104 (by decide) fl_X12_115 (fx_104_83 hρ) dX12_undo_38 ?_
      refine V_bipush dX12_undo_41 rfl ?_
      refine V_al0n dX12_undo_43 ?_
      refine V_getI kk104 (by decide) fl_X12_295 (h8 i) dX12_undo_44 ?_
      refine V_imul dX12_undo_47 ?_
      refine V_il1n dX12_undo_48 ?_
      refine V_iadd dX12_undo_49 ?_
      refine V_iald (k := 8 * u + i) kk138 (by decide) (by first | rfl | omega) (by omega) (by first | decide | assumption | omega) (cpR_b (by omega)) dX12_undo_50 ?_
      refine V_iast (k := i) kk137 (by decide) (by first | rfl | omega) (by omega) (by first | decide | assumption | omega) dX12_undo_51 ?_
      refine V_inc1 dX12_undo_52 (by decide) rfl ?_
      refine V_goto (tgt := 26) dX12_undo_55 rfl ?_
      rw [cpR_s (by omega)]
      exact w_und26 hρ hu h82 hd hX (i + 1) (by omega)
termination_by 7 - i
theorem c_mundo {ρ : RT} {f : IT} {g : JT} (hρ : Fx ρ) (h82 : 0 ≤ f 104 82 ∧ f 104 82 ≤ 20) (hd : 0 < f 104 82 → ri (f 138 (8 * (f 104 82 - 1).toNat + 7))) :
    C_X12_undo [.ref 104] ρ f g (fun r ρ' f' g' => r = some (.int (iz (f 104 82 - 1))) ∧ ρ' = ρ ∧ KM (undF f) f' ∧ KM (undG f g) g') := by
  have k0 : KM f (u2 f 104 2 0) := KM.u2 rfl KM.rf
  refine Ct.ofV (by decide) rfl (Nat.le_of_ble_eq_true rfl) ?_
  refine V_al0n dX12_undo_0 ?_
  refine V_iconst dX12_undo_1 ?_
  refine V_putI kk104 (by decide) fl_X12_154 rfl dX12_undo_2 ?_
  refine V_al0n dX12_undo_5 ?_
  refine V_getI kk104 (by decide) fl_X12_295 (u2_n (by decide) rfl) dX12_undo_6 ?_
  refine V_if_ne (tgt := 14) dX12_undo_9 rfl (by first | assumption | (unfold ri at *; omega)) (fun b9 => ?_) (fun b9 => ?_)
  · refine V_al0n dX12_undo_14 ?_
    refine V_dup dX12_undo_15 rfl ?_
    refine V_getI kk104 (by decide) fl_X12_295 (u2_n (by decide) rfl) dX12_undo_16 ?_
    refine V_iconst dX12_undo_19 ?_
    refine V_isub dX12_undo_20 ?_
    refine V_putI kk104 (by decide) fl_X12_295 rfl dX12_undo_21 ?_
    refine V_iconst dX12_undo_24 ?_
    refine V_is1n dX12_undo_25 (by decide) rfl ?_
    obtain ⟨u, hu⟩ : ∃ u : Nat, f 104 82 = u + 1 := ⟨(f 104 82 - 1).toNat, by omega⟩
    have ht : (f 104 82 - 1).toNat = u := by omega
    have hd' := hd (by omega)
    rw [ht] at hd'
    have := w_und26 (Q := fun r ρ' f' g' => r = some (.int (iz (f 104 82 - 1))) ∧ ρ' = ρ ∧ KM (undF f) f' ∧ KM (undG f g) g') (f := u2 (u2 f 104 2 0) 104 82 (f 104 82 - 1)) (g := g) hρ (u := u) (by omega) (by rw [u2_s]; omega) (by rw [u2_o (by omega), u2_o (by omega)]; exact hd') ⟨by congr 3; omega, rfl, by unfold undF; rw [if_neg b9, ht]; exact km_cpR (fun k => rfl) (km_cg k0), by unfold undG; rw [if_neg b9, ht, u2_o (by omega), u2_o (by omega)]; exact KM.rf⟩ 0 (by omega)
    rw [cpR_0] at this
    exact this
  · refine V_iconst dX12_undo_12 ?_
    exact V_ireturn rfl ⟨by rw [b9]; rfl, rfl, by unfold undF; rw [if_pos b9]; exact k0, by unfold undG; rw [if_pos b9]; exact KM.rf⟩ dX12_undo_13
def sackF (n : Int) (f : IT) : IT := if zin n 0 30 = true then u2 f 104 67 n else f
theorem c_msack {ρ : RT} {f : IT} {g : JT} {n : Int} (rn_ : ri n) :
    C_X12_sack [.ref 104, .int (iz n)] ρ f g (fun r ρ' f' g' => r = some (.int (iz (bz (zin n 0 30)))) ∧ ρ' = ρ ∧ KM (sackF n f) f' ∧ KM g g') := by
  have k0 : KM f (u2 f 104 2 0) := KM.u2 rfl KM.rf
  refine Ct.ofV (by decide) rfl (Nat.le_of_ble_eq_true rfl) ?_
  refine V_al0n dX12_sack_0 ?_
  refine V_iconst dX12_sack_1 ?_
  refine V_putI kk104 (by decide) fl_X12_154 rfl dX12_sack_2 ?_
  refine V_il1n dX12_sack_5 ?_
  refine V_iconst dX12_sack_6 ?_
  refine V_bipush dX12_sack_7 rfl ?_
  refine V_callS (as := [_, _, _]) ml_X12_199 sm_X12_isIn dX12_sack_9 rfl rfl (by decide) (by decide) (Nat.le_of_ble_eq_true rfl) (by decide) (by decide) rfl (c_isIn rn_ (by unfold ri; omega) (by unfold ri; omega)) ?_
  refine pq4 ?_
  refine V_bf (tgt := 17) dX12_sack_12 rfl (fun b12 => ?_) (fun b12 => ?_)
  · refine V_al0n dX12_sack_17 ?_
    refine V_il1n dX12_sack_18 ?_
    refine V_putI kk104 (by decide) fl_X12_282 rfl dX12_sack_19 ?_
    refine V_iconst dX12_sack_22 ?_
    exact V_zreturn rfl (by first | exact Or.inl rfl | exact Or.inr rfl | (unfold bz; split <;> simp)) ⟨by simp [*, bz], rfl, by unfold sackF; simp [*] <;> first | exact k0 | exact km_cg k0, KM.rf⟩ dX12_sack_23
  · refine V_iconst dX12_sack_15 ?_
    exact V_zreturn rfl (by first | exact Or.inl rfl | exact Or.inr rfl | (unfold bz; split <;> simp)) ⟨by simp [*, bz], rfl, by unfold sackF; simp [*] <;> first | exact k0 | exact km_cg k0, KM.rf⟩ dX12_sack_16
def dmS (T : TT) (b : Bool) : Int := sumTo (fun k => bz (dmp T b k)) (nLa T)
theorem w_rain14 {T : TT} {Q : QT} {ρ : RT} {f : IT} {g : JT} (hρ : Fx ρ) (hT : MT T f) (hk : TOK T) {b : Bool} (h68 : f 104 68 = bz b) (hX : Q (some (.int (iz (dmS T b)))) ρ f g) (i : Nat) (hi : i ≤ nLa T) : V_X12_rain Q 14 [.ref 104, .int (iz (bz b)), .int (iz (sumTo (fun k => bz (dmp T b k)) i)), .int (iz (i : Int))] [] ρ f g := by
  have h6 := hk.la
  have fl : f 104 12 = ((nLa T : Nat) : Int) := (hT 104 12 rfl).trans h6.1
  refine V_il3n dX12_rain_14 ?_
  refine V_al0n dX12_rain_15 ?_
  refine V_getI kk104 (by decide) fl_X12_250 fl dX12_rain_16 ?_
  refine V_icmp_ge (tgt := 44) dX12_rain_19 rfl (by first | assumption | (unfold ri at *; omega)) (by first | assumption | (unfold ri at *; omega)) (fun b19 => ?_) (fun b19 => ?_)
  · have ei : i = nLa T := by omega
    subst ei
    refine V_il2n dX12_rain_44 ?_
    exact V_ireturn rfl hX dX12_rain_45
  · refine V_il2n dX12_rain_22 ?_
    refine V_al0n dX12_rain_23 ?_
    refine V_il3n dX12_rain_24 ?_
    refine V_callV (as := [_]) ml_X12_423 im_X12_isDamp se_X12_isDamp kk104 (by decide) (by decide) dX12_rain_25 rfl rfl (by decide) (by decide) (Nat.le_of_ble_eq_true rfl) (by decide) (by decide) rfl (c_isDamp hρ hT hk (by omega) h68) ?_
    refine pq4 ?_
    refine V_bt (tgt := 35) dX12_rain_28 rfl (fun b28 => ?_) (fun b28 => ?_)
    · refine V_iconst dX12_rain_35 ?_
      refine V_iadd dX12_rain_36 ?_
      refine V_is2n dX12_rain_37 (by decide) rfl ?_
      refine V_inc3 dX12_rain_38 (by decide) rfl ?_
      refine V_goto (tgt := 14) dX12_rain_41 rfl ?_
      have hx := w_rain14 hρ hT hk h68 hX (i + 1) (by omega)
      simp only [sumTo, dmp, b28] at hx
      exact hx
    · refine V_iconst dX12_rain_31 ?_
      refine V_goto (tgt := 36) dX12_rain_32 rfl ?_
      refine V_iadd dX12_rain_36 ?_
      refine V_is2n dX12_rain_37 (by decide) rfl ?_
      refine V_inc3 dX12_rain_38 (by decide) rfl ?_
      refine V_goto (tgt := 14) dX12_rain_41 rfl ?_
      have hx := w_rain14 hρ hT hk h68 hX (i + 1) (by omega)
      simp only [sumTo, dmp, b28] at hx
      exact hx
termination_by nLa T - i
theorem c_mrain {T : TT} {ρ : RT} {f : IT} {g : JT} (hρ : Fx ρ) (hT : MT T f) (hk : TOK T) {b : Bool} :
    C_X12_rain [.ref 104, .int (iz (bz b))] ρ f g (fun r ρ' f' g' => r = some (.int (iz (dmS T b))) ∧ ρ' = ρ ∧ KM (u2 f 104 68 (bz b)) f' ∧ KM g g') := by
  have k0 : KM f (u2 f 104 2 0) := KM.u2 rfl KM.rf
  refine Ct.ofV (by decide) rfl (Nat.le_of_ble_eq_true rfl) ?_
  refine V_al0n dX12_rain_0 ?_
  refine V_iconst dX12_rain_1 ?_
  refine V_putI kk104 (by decide) fl_X12_154 rfl dX12_rain_2 ?_
  refine V_al0n dX12_rain_5 ?_
  refine V_il1n dX12_rain_6 ?_
  refine V_putZ kk104 (by decide) fl_X12_285 rfl (by first | exact Or.inl rfl | exact Or.inr rfl | (unfold bz; split <;> simp)) dX12_rain_7 ?_
  refine V_iconst dX12_rain_10 ?_
  refine V_is2n dX12_rain_11 (by decide) rfl ?_
  refine V_iconst dX12_rain_12 ?_
  refine V_is3n dX12_rain_13 (by decide) rfl ?_
  exact w_rain14 hρ (fun a k ht => (u2_o (fun q => by rw [q.1, q.2] at ht; cases ht)).trans (hT.km k0 a k ht)) hk u2_s ⟨rfl, rfl, km_cg k0, KM.rf⟩ 0 (by omega)

