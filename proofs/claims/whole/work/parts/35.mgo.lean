/-! the race's steps -/
def shU (f : IT) (i : Nat) : IT := fun a k => if a = 138 ∧ k < i then f 138 (k + 8) else f a k
def cpU (f : IT) (u i : Nat) : IT := fun a k => if a = 138 ∧ 8 * u ≤ k ∧ k < 8 * u + i then f 137 (k - 8 * u) else f a k
def remF (d : Int) (f : IT) : IT := if f 104 82 = 20 then u2 (u2 (cpU (u2 (shU f 152) 104 82 19) 19 7) 138 159 d) 104 82 20 else u2 (u2 (cpU f (f 104 82).toNat 7) 138 (8 * (f 104 82).toNat + 7) d) 104 82 (f 104 82 + 1)
theorem remF_o {d : Int} {f : IT} {a k : Nat} (h1 : a ≠ 138) (h2 : ¬ (a = 104 ∧ k = 82)) : remF d f a k = f a k := by
  unfold remF
  split <;> simp [u2, cpU, shU, h1, h2]
theorem w_rem11 {Q : QT} {ρ : RT} {f : IT} {g : JT} (hρ : Fx ρ) (hX : V_X12_remember Q 39 [.ref 104, .int (iz 152)] [] ρ (shU f 152) g) (i : Nat) (hi : i ≤ 152) : V_X12_remember Q 11 [.ref 104, .int (iz (i : Int))] [] ρ (shU f i) g := by
  by_cases e : i = 152
  · subst e
    refine V_il1n dX12_remember_11 ?_
    refine V_sipush dX12_remember_12 rfl ?_
    refine V_icmp_ge (tgt := 39) dX12_remember_15 rfl (by first | assumption | (unfold ri at *; omega)) (by first | assumption | (unfold ri at *; omega)) (fun b15 => ?_) (fun b15 => ?_)
    · exact hX
    · exfalso; omega
  · have hu : u2 (shU f i) 138 i (shU f i 138 (i + 8)) = shU f (i + 1) := by
      funext a k
      unfold u2 shU
      by_cases ha : a = 138
      · subst ha
        by_cases hk : k = i
        · subst hk; simp; omega
        · simp [hk]
          by_cases h2 : k < i
          · rw [if_pos h2, if_pos (by omega)]
          · rw [if_neg h2, if_neg (by omega)]
      · simp [ha]
    refine V_il1n dX12_remember_11 ?_
    refine V_sipush dX12_remember_12 rfl ?_
    refine V_icmp_ge (tgt := 39) dX12_remember_15 rfl (by first | assumption | (unfold ri at *; omega)) (by first | assumption | (unfold ri at *; omega)) (fun b15 => ?_) (fun b15 => ?_)
    · exfalso; omega
    · refine V_al0n dX12_remember_18 ?_
      refine V_getR kk104 (by decide) fl_X12_115 (fx_104_83 hρ) dX12_remember_19 ?_
      refine V_il1n dX12_remember_22 ?_
      refine V_al0n dX12_remember_23 ?_
      refine V_getR kk104 (by decide) fl_X12_115 (fx_104_83 hρ) dX12_remember_24 ?_
      refine V_il1n dX12_remember_27 ?_
      refine V_bipush dX12_remember_28 rfl ?_
      refine V_iadd dX12_remember_30 ?_
      refine V_iald (k := i + 8) kk138 (by decide) (by first | rfl | omega) (by omega) (by first | decide | assumption | omega) rfl dX12_remember_31 ?_
      refine V_iast (k := i) kk138 (by decide) (by first | rfl | omega) (by omega) (by first | decide | assumption | omega) dX12_remember_32 ?_
      refine V_inc1 dX12_remember_33 (by decide) rfl ?_
      refine V_goto (tgt := 11) dX12_remember_36 rfl ?_
      rw [hu]
      exact w_rem11 hρ hX (i + 1) (by omega)
termination_by 152 - i
theorem w_rem51 {Q : QT} {ρ : RT} {f : IT} {g : JT} (hρ : Fx ρ) {u : Nat} (hu : u < 20) (h82 : f 104 82 = (u : Int)) {d : Int} (hd : g 104 69 = d) (hX : Q none ρ (u2 (u2 (cpU f u 7) 138 (8 * u + 7) d) 104 82 ((u : Int) + 1)) g) (i : Nat) (hi : i ≤ 7) : V_X12_remember Q 51 [.ref 104, .int (iz (i : Int))] [] ρ (cpU f u i) g := by
  have h8 : ∀ j, cpU f u j 104 82 = (u : Int) := fun j => by unfold cpU; simp [h82]
  by_cases e : i = 7
  · subst e
    refine V_il1n dX12_remember_51 ?_
    refine V_bipush dX12_remember_52 rfl ?_
    refine V_icmp_ge (tgt := 83) dX12_remember_54 rfl (by first | assumption | (unfold ri at *; omega)) (by first | assumption | (unfold ri at *; omega)) (fun b54 => ?_) (fun b54 => ?_)
    · refine V_al0n dX12_remember_83 ?_
      refine V_getR kk104 (by decide) fl_X12_115 (fx_104_83 hρ) dX12_remember_84 ?_
      refine V_bipush dX12_remember_87 rfl ?_
      refine V_al0n dX12_remember_89 ?_
      refine V_getI kk104 (by decide) fl_X12_295 (h8 7) dX12_remember_90 ?_
      refine V_imul dX12_remember_93 ?_
      refine V_bipush dX12_remember_94 rfl ?_
      refine V_iadd dX12_remember_96 ?_
      refine V_al0n dX12_remember_97 ?_
      refine V_getJ kk104 (by decide) fl_X12_288 hd dX12_remember_98 ?_
      refine V_l2i dX12_remember_101 ?_
      refine V_iast (k := 8 * u + 7) kk138 (by decide) (by first | rfl | omega) (by omega) (by first | decide | assumption | omega) dX12_remember_102 ?_
      refine V_al0n dX12_remember_103 ?_
      refine V_dup dX12_remember_104 rfl ?_
      refine V_getI kk104 (by decide) fl_X12_295 (u2_n (by omega) (h8 7)) dX12_remember_105 ?_
      refine V_iconst dX12_remember_108 ?_
      refine V_iadd dX12_remember_109 ?_
      refine V_putI kk104 (by decide) fl_X12_295 rfl dX12_remember_110 ?_
      exact V_return rfl hX dX12_remember_113
    · exfalso; omega
  · have hc : u2 (cpU f u i) 138 (8 * u + i) (f 137 i) = cpU f u (i + 1) := by
      funext a k
      unfold u2 cpU
      by_cases ha : a = 138
      · subst ha
        by_cases hk : k = 8 * u + i
        · subst hk
          simp
        · simp [hk]
          by_cases h2 : 8 * u ≤ k ∧ k < 8 * u + i
          · rw [if_pos h2, if_pos (by omega)]
          · rw [if_neg h2, if_neg (by omega)]
      · simp [ha]
    refine V_il1n dX12_remember_51 ?_
    refine V_bipush dX12_remember_52 rfl ?_
    refine V_icmp_ge (tgt := 83) dX12_remember_54 rfl (by first | assumption | (unfold ri at *; omega)) (by first | assumption | (unfold ri at *; omega)) (fun b54 => ?_) (fun b54 => ?_)
    · exfalso; omega
    · refine V_al0n dX12_remember_57 ?_
      refine V_getR kk104 (by decide) fl_X12_115 (fx_104_83 hρ) dX12_remember_58 ?_
      refine V_bipush dX12_remember_61 rfl ?_
      refine V_al0n dX12_remember_63 ?_
      refine V_getI kk104 (by decide) fl_X12_295 (h8 i) dX12_remember_64 ?_
      refine V_imul dX12_remember_67 ?_
      refine V_il1n dX12_remember_68 ?_
      refine V_iadd dX12_remember_69 ?_
      refine V_al0n dX12_remember_70 ?_
      refine V_getR kk104 (by decide) fl_X12_112 (fx_104_81 hρ) dX12_remember_71 ?_
      refine V_il1n dX12_remember_74 ?_
      refine V_iald (k := i) kk137 (by decide) (by first | rfl | omega) (by omega) (by first | decide | assumption | omega) (show cpU f u i 137 i = f 137 i by unfold cpU; simp) dX12_remember_75 ?_
      refine V_iast (k := 8 * u + i) kk138 (by decide) (by first | rfl | omega) (by omega) (by first | decide | assumption | omega) dX12_remember_76 ?_
      refine V_inc1 dX12_remember_77 (by decide) rfl ?_
      refine V_goto (tgt := 51) dX12_remember_80 rfl ?_
      rw [hc]
      exact w_rem51 hρ hu h82 hd hX (i + 1) (by omega)
termination_by 7 - i
theorem cpU_0 {f : IT} {u : Nat} : cpU f u 0 = f := by funext a k; unfold cpU; rw [if_neg (by omega)]
theorem shU_0 {f : IT} : shU f 0 = f := by funext a k; unfold shU; rw [if_neg (by omega)]
theorem c_remember {ρ : RT} {f : IT} {g : JT} (hρ : Fx ρ) (h82 : 0 ≤ f 104 82 ∧ f 104 82 ≤ 20) {d : Int} (hd : g 104 69 = d) :
    C_X12_remember [.ref 104] ρ f g (fun r ρ' f' g' => r = none ∧ ρ' = ρ ∧ f' = remF d f ∧ g' = g) := by
  refine Ct.ofV (by decide) rfl (Nat.le_of_ble_eq_true rfl) ?_
  by_cases e : f 104 82 = 20
  · refine V_al0n dX12_remember_0 ?_
    refine V_getI kk104 (by decide) fl_X12_295 e dX12_remember_1 ?_
    refine V_bipush dX12_remember_4 rfl ?_
    refine V_icmp_ne (tgt := 49) dX12_remember_6 rfl (by first | assumption | (unfold ri at *; omega)) (by first | assumption | (unfold ri at *; omega)) (fun b6 => ?_) (fun b6 => ?_)
    · exfalso; omega
    · refine V_iconst dX12_remember_9 ?_
      refine V_is1n dX12_remember_10 (by decide) rfl ?_
      suffices hX : V_X12_remember (fun r ρ' f' g' => r = none ∧ ρ' = ρ ∧ f' = remF d f ∧ g' = g) 39 [.ref 104, .int (iz 152)] [] ρ (shU f 152) g by have key := w_rem11 hρ hX 0 (by omega); rw [shU_0] at key; exact key
      refine V_al0n dX12_remember_39 ?_
      refine V_dup dX12_remember_40 rfl ?_
      refine V_getI kk104 (by decide) fl_X12_295 (show shU f 152 104 82 = 20 by unfold shU; simp [e]) dX12_remember_41 ?_
      refine V_iconst dX12_remember_44 ?_
      refine V_isub dX12_remember_45 ?_
      refine V_putI kk104 (by decide) fl_X12_295 rfl dX12_remember_46 ?_
      refine V_iconst dX12_remember_49 ?_
      refine V_is1n dX12_remember_50 (by decide) rfl ?_
      have := w_rem51 (Q := fun r ρ' f' g' => r = none ∧ ρ' = ρ ∧ f' = remF d f ∧ g' = g) (f := u2 (shU f 152) 104 82 19) (g := g) hρ (u := 19) (by omega) u2_s hd ⟨rfl, rfl, by unfold remF; rw [if_pos e]; rfl, rfl⟩ 0 (by omega)
      rw [cpU_0] at this
      exact this
  · obtain ⟨u, hu⟩ : ∃ u : Nat, f 104 82 = u := ⟨(f 104 82).toNat, by omega⟩
    refine V_al0n dX12_remember_0 ?_
    refine V_getI kk104 (by decide) fl_X12_295 hu dX12_remember_1 ?_
    refine V_bipush dX12_remember_4 rfl ?_
    refine V_icmp_ne (tgt := 49) dX12_remember_6 rfl (by first | assumption | (unfold ri at *; omega)) (by first | assumption | (unfold ri at *; omega)) (fun b6 => ?_) (fun b6 => ?_)
    · refine V_iconst dX12_remember_49 ?_
      refine V_is1n dX12_remember_50 (by decide) rfl ?_
      have := w_rem51 (Q := fun r ρ' f' g' => r = none ∧ ρ' = ρ ∧ f' = remF d f ∧ g' = g) (f := f) (g := g) hρ (u := u) (by omega) hu hd ⟨rfl, rfl, by unfold remF; rw [if_neg e, hu]; rfl, rfl⟩ 0 (by omega)
      rw [cpU_0] at this
      exact this
    · exfalso; omega
def xsF (T : TT) (f : IT) (g : JT) : RS := onS T (c0 T (raF f) (f 104 67) (f 104 79).toNat) (lat T (f 137 0)) (f 137 6).toNat (rpF T f) ((f 137 1, f 137 2, f 137 3, f 137 0), g 104 69)
def stF (T : TT) (f : IT) (g : JT) : IT := u2 (u2 (u2 (u2 (if slp T (raF f) (lat T (f 137 0)) (f 137 6).toNat (g 104 69) = true then u2 (remF (g 104 69) f) 137 4 (f 137 4 + 1) else remF (g 104 69) f) 137 0 (xsF T f g).1.2.2.2) 137 1 (xsF T f g).1.1) 137 2 (xsF T f g).1.2.1) 137 3 (xsF T f g).1.2.2.1
def stG (g : JT) : JT := u2 g 104 69 (nxt (g 104 69))
def RWf (T : TT) (m p : Int) (r : Nat → Int) : Prop := (0 ≤ m ∧ m < (nMe T : Int)) ∧ (0 ≤ p ∧ p < (nPl T : Int)) ∧ (0 ≤ r 0 ∧ r 0 ≤ allS T) ∧ (0 ≤ r 2 ∧ r 2 ≤ T 113 m.toNat) ∧ (0 ≤ r 3 ∧ r 3 ≤ 40) ∧ (0 ≤ r 5 ∧ r 5 ≤ 9) ∧ (0 ≤ r 6 ∧ r 6 < (nHo T : Int))
theorem c_raceStep {T : TT} {ρ : RT} {f : IT} {g : JT} (hρ : Fx ρ) (hT : MT T f) (hk : TOK T) (h67 : 0 ≤ f 104 67 ∧ f 104 67 ≤ 30) (h68 : f 104 68 = 0 ∨ f 104 68 = 1) (h82 : 0 ≤ f 104 82 ∧ f 104 82 ≤ 20) (hW : RWf T (f 104 79) (f 104 80) (f 137)) (h0 : f 137 0 < allS T) (h3 : 0 < f 137 3) :
    C_X12_raceStep [.ref 104] ρ f g (fun r ρ' f' g' => r = none ∧ ρ' = ρ ∧ KM (stF T f g) f' ∧ KM (stG g) g') := by
  obtain ⟨w1, w2, w3, w4, w5, w6, w7⟩ := hW
  have hall := allS_rng hk
  have hhn := hk.ho
  have hla := hk.la
  have hl := lat_lt hk (n := f 137 0) (by omega)
  obtain ⟨m, em⟩ : ∃ m : Nat, f 104 79 = m := ⟨(f 104 79).toNat, by omega⟩
  obtain ⟨h, eh⟩ : ∃ h : Nat, f 137 6 = h := ⟨(f 137 6).toNat, by omega⟩
  have hm : m < nMe T := by omega
  have hh : h < nHo T := by omega
  have hmm := hk.man hm
  have hra := raF_bz h68
  obtain ⟨k1, k2, k3⟩ := c0_ok hk hm (ra := raF f) h67
  have hpp : 1 ≤ rpF T f ∧ rpF T f ≤ 9 := by
    unfold rpF
    split
    · omega
    · exact pce_rng hk (by omega)
  rw [em, Int.toNat_natCast] at w4
  have exs : xsF T f g = onS T (c0 T (raF f) (f 104 67) m) (lat T (f 137 0)) h (rpF T f) ((f 137 1, f 137 2, f 137 3, f 137 0), g 104 69) := by unfold xsF; rw [em, eh]; rfl
  have R : ∀ a k, a ≠ 138 → ¬ (a = 104 ∧ k = 82) → remF (g 104 69) f a k = f a k := fun a k q1 q2 => remF_o q1 q2
  have hTr : MT T (remF (g 104 69) f) := fun a k ht => (R a k (fun q => by subst q; simp [tx, half] at ht) (fun q => by rw [q.1, q.2] at ht; cases ht)).trans (hT a k ht)
  have hsr : SR (f 137 1, f 137 2, f 137 3, f 137 0) := by unfold SR; simp only; omega
  refine Ct.ofV (by decide) rfl (Nat.le_of_ble_eq_true rfl) ?_
  refine V_al0n dX12_raceStep_0 ?_
  refine V_callV (as := []) ml_X12_499 im_X12_remember se_X12_remember kk104 (by decide) (by decide) dX12_raceStep_1 rfl rfl (by decide) (by decide) (Nat.le_of_ble_eq_true rfl) (by decide) (by decide) rfl (c_remember hρ h82 rfl) ?_
  refine pq4 ?_
  refine V_al0n dX12_raceStep_4 ?_
  refine V_al0n dX12_raceStep_5 ?_
  refine V_getI kk104 (by decide) fl_X12_493 ((R 104 79 (by omega) (by omega)).trans em) dX12_raceStep_6 ?_
  refine V_callV (as := [_]) ml_X12_467 im_X12_begins se_X12_begins kk104 (by decide) (by decide) dX12_raceStep_9 rfl rfl (by decide) (by decide) (Nat.le_of_ble_eq_true rfl) (by decide) (by decide) rfl (c_begins1 hρ hTr hk hm (ra := raF f) (R 104 67 (by omega) (by omega)) ((R 104 68 (by omega) (by omega)).trans hra)) ?_
  rintro r9 ρ9 f9 g9 ⟨rfl, s9_0, hM, km, hT2, kb, s9_1⟩
  obtain rfl := s9_0.symm
  obtain rfl := s9_1.symm
  have E9 : ∀ k, f9 137 k = f 137 k := fun k => (kb 137 k (by omega)).trans (R 137 k (by omega) (by omega))
  obtain ⟨m1, m2, m3, m4, m5, m6, m7, m8, m9⟩ := hM
  refine V_al0n dX12_raceStep_12 ?_
  refine V_al0n dX12_raceStep_13 ?_
  refine V_getR kk104 (by decide) fl_X12_112 (fx_104_81 hρ) dX12_raceStep_14 ?_
  refine V_iconst dX12_raceStep_17 ?_
  refine V_iald (k := 0) kk137 (by decide) (by first | rfl | omega) (by omega) (by first | decide | assumption | omega) (E9 0) dX12_raceStep_18 ?_
  refine V_putI kk104 (by decide) fl_X12_447 rfl dX12_raceStep_19 ?_
  refine V_al0n dX12_raceStep_22 ?_
  refine V_al0n dX12_raceStep_23 ?_
  refine V_getR kk104 (by decide) fl_X12_112 (fx_104_81 hρ) dX12_raceStep_24 ?_
  refine V_iconst dX12_raceStep_27 ?_
  refine V_iald (k := 1) kk137 (by decide) (by first | rfl | omega) (by omega) (by first | decide | assumption | omega) (u2_n (by decide) (E9 1)) dX12_raceStep_28 ?_
  refine V_putI kk104 (by decide) fl_X12_441 rfl dX12_raceStep_29 ?_
  refine V_al0n dX12_raceStep_32 ?_
  refine V_al0n dX12_raceStep_33 ?_
  refine V_getR kk104 (by decide) fl_X12_112 (fx_104_81 hρ) dX12_raceStep_34 ?_
  refine V_iconst dX12_raceStep_37 ?_
  refine V_iald (k := 2) kk137 (by decide) (by first | rfl | omega) (by omega) (by first | decide | assumption | omega) (u2_n (by decide) (u2_n (by decide) (E9 2))) dX12_raceStep_38 ?_
  refine V_putI kk104 (by decide) fl_X12_417 rfl dX12_raceStep_39 ?_
  refine V_al0n dX12_raceStep_42 ?_
  refine V_al0n dX12_raceStep_43 ?_
  refine V_getR kk104 (by decide) fl_X12_112 (fx_104_81 hρ) dX12_raceStep_44 ?_
  refine V_iconst dX12_raceStep_47 ?_
  refine V_iald (k := 3) kk137 (by decide) (by first | rfl | omega) (by omega) (by first | decide | assumption | omega) (u2_n (by decide) (u2_n (by decide) (u2_n (by decide) (E9 3)))) dX12_raceStep_48 ?_
  refine V_putI kk104 (by decide) fl_X12_420 rfl dX12_raceStep_49 ?_
  have hTa : MT T (u2 (u2 (u2 (u2 f9 104 77 (f 137 0)) 104 76 (f 137 1)) 104 74 (f 137 2)) 104 75 (f 137 3)) := hT2.km (KM.u2 rfl (KM.u2 rfl (KM.u2 rfl (KM.u2 rfl KM.rf))))
  have hMa : MS (c0 T (raF f) (f 104 67) m) (f 137 1, f 137 2, f 137 3, f 137 0) (u2 (u2 (u2 (u2 f9 104 77 (f 137 0)) 104 76 (f 137 1)) 104 74 (f 137 2)) 104 75 (f 137 3)) := ⟨by simp only [u2]; simp; exact m1, by simp only [u2]; simp; exact m2, by simp only [u2]; simp; exact m3, by simp only [u2]; simp; exact m4, by simp only [u2]; simp; exact m5, by simp [u2], by simp [u2], by simp [u2], by simp [u2]⟩
  have hrp : rpF T (u2 (u2 (u2 (u2 f9 104 77 (f 137 0)) 104 76 (f 137 1)) 104 74 (f 137 2)) 104 75 (f 137 3)) = rpF T f := by unfold rpF; simp only [u2]; simp only [E9, kb 104 80 (by omega), R 104 80 (by omega) (by omega)]; simp [E9]
  have e80 : (u2 (u2 (u2 (u2 f9 104 77 (f 137 0)) 104 76 (f 137 1)) 104 74 (f 137 2)) 104 75 (f 137 3)) 104 80 = f 104 80 := u2_n (by omega) (u2_n (by omega) (u2_n (by omega) (u2_n (by omega) ((kb 104 80 (by omega)).trans (R 104 80 (by omega) (by omega))))))
  have e137 : ∀ k, (u2 (u2 (u2 (u2 f9 104 77 (f 137 0)) 104 76 (f 137 1)) 104 74 (f 137 2)) 104 75 (f 137 3)) 137 k = f 137 k := fun k => u2_n (by omega) (u2_n (by omega) (u2_n (by omega) (u2_n (by omega) (E9 k))))
  refine V_al0n dX12_raceStep_52 ?_
  refine V_al0n dX12_raceStep_53 ?_
  refine V_getI kk104 (by decide) fl_X12_447 (u2_n (by decide) (u2_n (by decide) (u2_n (by decide) u2_s))) dX12_raceStep_54 ?_
  refine V_callV (as := [_]) ml_X12_479 im_X12_laneAt se_X12_laneAt kk104 (by decide) (by decide) dX12_raceStep_57 rfl rfl (by decide) (by decide) (Nat.le_of_ble_eq_true rfl) (by decide) (by decide) rfl (c_laneAt hρ hTa hk (by omega)) ?_
  refine pq4 ?_
  refine V_is1n dX12_raceStep_60 (by decide) rfl ?_
  refine V_al0n dX12_raceStep_61 ?_
  refine V_il1n dX12_raceStep_62 ?_
  refine V_al0n dX12_raceStep_63 ?_
  refine V_getR kk104 (by decide) fl_X12_112 (fx_104_81 hρ) dX12_raceStep_64 ?_
  refine V_bipush dX12_raceStep_67 rfl ?_
  refine V_iald (k := 6) kk137 (by decide) (by first | rfl | omega) (by omega) (by first | decide | assumption | omega) (u2_n (by decide) (u2_n (by decide) (u2_n (by decide) (u2_n (by decide) ((E9 6).trans eh))))) dX12_raceStep_69 ?_
  refine V_al0n dX12_raceStep_70 ?_
  refine V_callV (as := []) ml_X12_502 im_X12_racePace se_X12_racePace kk104 (by decide) (by decide) dX12_raceStep_71 rfl rfl (by decide) (by decide) (Nat.le_of_ble_eq_true rfl) (by decide) (by decide) rfl (c_racePace hρ hTa hk (by rw [e137]; unfold ri; omega) (by rw [e137]; omega) (by rw [e80]; omega)) ?_
  refine pq4 ?_
  rw [hrp]
  refine V_callV (as := [_, _, _]) ml_X12_470 im_X12_step se_X12_step kk104 (by decide) (by decide) dX12_raceStep_74 rfl rfl (by decide) (by decide) (Nat.le_of_ble_eq_true rfl) (by decide) (by decide) rfl (c_step1 hρ hTa hk hl hh hMa k1 hsr hpp) ?_
  rintro r74 ρ74 f74 g74 ⟨rfl, s74_0, hM1, ks1, kg1⟩
  obtain rfl := s74_0.symm
  have E74 : ∀ k, f74 137 k = f 137 k := fun k => (ks1 137 k (by omega)).trans (e137 k)
  have hT3 := ks1.mt hTa
  have kk : KM (remF (g 104 69) f) f74 := km.tr ((KM.u2 rfl (KM.u2 rfl (KM.u2 rfl (KM.u2 rfl KM.rf)))).tr ks1.km)
  obtain ⟨n1, n2, n3, n4, n5, n6, n7, n8, n9⟩ := hM1
  refine V_al0n dX12_raceStep_77 ?_
  refine V_il1n dX12_raceStep_78 ?_
  refine V_al0n dX12_raceStep_79 ?_
  refine V_getR kk104 (by decide) fl_X12_112 (fx_104_81 hρ) dX12_raceStep_80 ?_
  refine V_bipush dX12_raceStep_83 rfl ?_
  refine V_iald (k := 6) kk137 (by decide) (by first | rfl | omega) (by omega) (by first | decide | assumption | omega) ((E74 6).trans eh) dX12_raceStep_85 ?_
  refine V_callV (as := [_, _]) ml_X12_505 im_X12_slips se_X12_slips kk104 (by decide) (by decide) dX12_raceStep_86 rfl rfl (by decide) (by decide) (Nat.le_of_ble_eq_true rfl) (by decide) (by decide) rfl (c_slips hρ hT3 hk hl hh n2 (d := g 104 69) (by rw [kg1 104 (by omega) (by omega)])) ?_
  refine pq4 ?_
  refine V_bt (tgt := 123) dX12_raceStep_89 rfl (fun b89 => ?_) (fun b89 => ?_)
  · have b89' : slp T (raF f) (lat T (f 137 0)) h (g 104 69) = false := b89
    have ex : xsF T f g = (one T (c0 T (raF f) (f 104 67) m) (lat T (f 137 0)) (T 117 h) (rpF T f) (f 137 1, f 137 2, f 137 3, f 137 0), nxt (g 104 69)) := by rw [exs]; unfold onS; rw [if_neg (by rw [b89]; exact Bool.false_ne_true)]
    refine V_al0n dX12_raceStep_123 ?_
    refine V_getR kk104 (by decide) fl_X12_112 (fx_104_81 hρ) dX12_raceStep_124 ?_
    refine V_iconst dX12_raceStep_127 ?_
    refine V_al0n dX12_raceStep_128 ?_
    refine V_getI kk104 (by decide) fl_X12_447 n9 dX12_raceStep_129 ?_
    refine V_iast (k := 0) kk137 (by decide) (by first | rfl | omega) (by omega) (by first | decide | assumption | omega) dX12_raceStep_132 ?_
    refine V_al0n dX12_raceStep_133 ?_
    refine V_getR kk104 (by decide) fl_X12_112 (fx_104_81 hρ) dX12_raceStep_134 ?_
    refine V_iconst dX12_raceStep_137 ?_
    refine V_al0n dX12_raceStep_138 ?_
    refine V_getI kk104 (by decide) fl_X12_441 (u2_n (by decide) n6) dX12_raceStep_139 ?_
    refine V_iast (k := 1) kk137 (by decide) (by first | rfl | omega) (by omega) (by first | decide | assumption | omega) dX12_raceStep_142 ?_
    refine V_al0n dX12_raceStep_143 ?_
    refine V_getR kk104 (by decide) fl_X12_112 (fx_104_81 hρ) dX12_raceStep_144 ?_
    refine V_iconst dX12_raceStep_147 ?_
    refine V_al0n dX12_raceStep_148 ?_
    refine V_getI kk104 (by decide) fl_X12_417 (u2_n (by decide) (u2_n (by decide) n7)) dX12_raceStep_149 ?_
    refine V_iast (k := 2) kk137 (by decide) (by first | rfl | omega) (by omega) (by first | decide | assumption | omega) dX12_raceStep_152 ?_
    refine V_al0n dX12_raceStep_153 ?_
    refine V_getR kk104 (by decide) fl_X12_112 (fx_104_81 hρ) dX12_raceStep_154 ?_
    refine V_iconst dX12_raceStep_157 ?_
    refine V_al0n dX12_raceStep_158 ?_
    refine V_getI kk104 (by decide) fl_X12_420 (u2_n (by decide) (u2_n (by decide) (u2_n (by decide) n8))) dX12_raceStep_159 ?_
    refine V_iast (k := 3) kk137 (by decide) (by first | rfl | omega) (by omega) (by first | decide | assumption | omega) dX12_raceStep_162 ?_
    exact V_return rfl ⟨rfl, rfl, by unfold stF; rw [ex, eh, Int.toNat_natCast, b89']; first | (rw [if_pos rfl]; exact km_cg (km_cg (km_cg (km_cg (km_cg (KM.u2 rfl kk)))))) | (rw [if_neg Bool.false_ne_true]; exact km_cg (km_cg (km_cg (km_cg kk)))), km_cg kg1.km⟩ dX12_raceStep_163
  · have b89' : slp T (raF f) (lat T (f 137 0)) h (g 104 69) = true := b89
    have ex : xsF T f g = (((one T (c0 T (raF f) (f 104 67) m) (lat T (f 137 0)) (T 117 h) (rpF T f) (f 137 1, f 137 2, f 137 3, f 137 0)).1 + T 119 h, (one T (c0 T (raF f) (f 104 67) m) (lat T (f 137 0)) (T 117 h) (rpF T f) (f 137 1, f 137 2, f 137 3, f 137 0)).2), nxt (g 104 69)) := by rw [exs]; unfold onS; rw [if_pos b89]
    refine V_al0n dX12_raceStep_92 ?_
    refine V_dup dX12_raceStep_93 rfl ?_
    refine V_getI kk104 (by decide) fl_X12_441 n6 dX12_raceStep_94 ?_
    refine V_al0n dX12_raceStep_97 ?_
    refine V_getR kk104 (by decide) fl_X12_57 (fx_104_42 hρ) dX12_raceStep_98 ?_
    refine V_al0n dX12_raceStep_101 ?_
    refine V_getR kk104 (by decide) fl_X12_112 (fx_104_81 hρ) dX12_raceStep_102 ?_
    refine V_bipush dX12_raceStep_105 rfl ?_
    refine V_iald (k := 6) kk137 (by decide) (by first | rfl | omega) (by omega) (by first | decide | assumption | omega) ((E74 6).trans eh) dX12_raceStep_107 ?_
    refine V_iald (k := h) kk119 (by decide) (by first | rfl | omega) (by omega) (by first | decide | assumption | omega) (hT3.at rfl (by omega : h < 3)) dX12_raceStep_108 ?_
    refine V_iadd dX12_raceStep_109 ?_
    refine V_putI kk104 (by decide) fl_X12_441 rfl dX12_raceStep_110 ?_
    refine V_al0n dX12_raceStep_113 ?_
    refine V_getR kk104 (by decide) fl_X12_112 (fx_104_81 hρ) dX12_raceStep_114 ?_
    refine V_iconst dX12_raceStep_117 ?_
    refine V_dup2 dX12_raceStep_118 rfl rfl ?_
    refine V_iald (k := 4) kk137 (by decide) (by first | rfl | omega) (by omega) (by first | decide | assumption | omega) (u2_n (by omega) (E74 4)) dX12_raceStep_119 ?_
    refine V_iconst dX12_raceStep_120 ?_
    refine V_iadd dX12_raceStep_121 ?_
    refine V_iast (k := 4) kk137 (by decide) (by first | rfl | omega) (by omega) (by first | decide | assumption | omega) dX12_raceStep_122 ?_
    refine V_al0n dX12_raceStep_123 ?_
    refine V_getR kk104 (by decide) fl_X12_112 (fx_104_81 hρ) dX12_raceStep_124 ?_
    refine V_iconst dX12_raceStep_127 ?_
    refine V_al0n dX12_raceStep_128 ?_
    refine V_getI kk104 (by decide) fl_X12_447 (u2_n (by decide) (u2_n (by decide) n9)) dX12_raceStep_129 ?_
    refine V_iast (k := 0) kk137 (by decide) (by first | rfl | omega) (by omega) (by first | decide | assumption | omega) dX12_raceStep_132 ?_
    refine V_al0n dX12_raceStep_133 ?_
    refine V_getR kk104 (by decide) fl_X12_112 (fx_104_81 hρ) dX12_raceStep_134 ?_
    refine V_iconst dX12_raceStep_137 ?_
    refine V_al0n dX12_raceStep_138 ?_
    refine V_getI kk104 (by decide) fl_X12_441 (u2_n (by decide) (u2_n (by decide) u2_s)) dX12_raceStep_139 ?_
    refine V_iast (k := 1) kk137 (by decide) (by first | rfl | omega) (by omega) (by first | decide | assumption | omega) dX12_raceStep_142 ?_
    refine V_al0n dX12_raceStep_143 ?_
    refine V_getR kk104 (by decide) fl_X12_112 (fx_104_81 hρ) dX12_raceStep_144 ?_
    refine V_iconst dX12_raceStep_147 ?_
    refine V_al0n dX12_raceStep_148 ?_
    refine V_getI kk104 (by decide) fl_X12_417 (u2_n (by decide) (u2_n (by decide) (u2_n (by decide) (u2_n (by decide) n7)))) dX12_raceStep_149 ?_
    refine V_iast (k := 2) kk137 (by decide) (by first | rfl | omega) (by omega) (by first | decide | assumption | omega) dX12_raceStep_152 ?_
    refine V_al0n dX12_raceStep_153 ?_
    refine V_getR kk104 (by decide) fl_X12_112 (fx_104_81 hρ) dX12_raceStep_154 ?_
    refine V_iconst dX12_raceStep_157 ?_
    refine V_al0n dX12_raceStep_158 ?_
    refine V_getI kk104 (by decide) fl_X12_420 (u2_n (by decide) (u2_n (by decide) (u2_n (by decide) (u2_n (by decide) (u2_n (by decide) n8))))) dX12_raceStep_159 ?_
    refine V_iast (k := 3) kk137 (by decide) (by first | rfl | omega) (by omega) (by first | decide | assumption | omega) dX12_raceStep_162 ?_
    exact V_return rfl ⟨rfl, rfl, by unfold stF; rw [ex, eh, Int.toNat_natCast, b89']; first | (rw [if_pos rfl]; exact km_cg (km_cg (km_cg (km_cg (km_cg (KM.u2 rfl kk)))))) | (rw [if_neg Bool.false_ne_true]; exact km_cg (km_cg (km_cg (km_cg kk)))), km_cg kg1.km⟩ dX12_raceStep_163

