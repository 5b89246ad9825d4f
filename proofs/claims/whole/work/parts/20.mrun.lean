theorem c_runs {T : TT} {ρ : RT} {f : IT} {g : JT} (hρ : Fx ρ) (hT : MT T f) (hk : TOK T) {p E : Nat} (hp : p < nPl T) (hE : E ≤ nLa T) {c : CC} (hc : CR c) {s0 : SS} (hM : MS c s0 f) (hs : SR s0) (hpos : s0.2.2.1 ≠ 0) :
    C_X12_runs [.ref 104, .int (iz (p : Int)), .int (iz ((E : Int) - 1))] ρ f g (fun r ρ' f' g' => ∃ b : Bool, r = some (.int (iz (bz b))) ∧ (b = true ↔ (rn T c (T 117 (T 121 p).toNat) (pce T p) E s0).2.2.1 ≠ 0) ∧ ρ' = ρ ∧ MS c (rn T c (T 117 (T 121 p).toNat) (pce T p) E s0) f' ∧ KS f f' ∧ KG g g') := by
  have h6 := hk.la
  refine Ct.ofV (by decide) rfl (Nat.le_of_ble_eq_true rfl) ?_
  by_cases e : 0 < E
  · have e1 : ¬ (E : Int) - 1 < 0 := by omega
    refine V_iconst dX12_runs_0 ?_
    refine V_is3n dX12_runs_1 (by decide) rfl ?_
    refine V_il3n dX12_runs_2 ?_
    refine V_il2n dX12_runs_3 ?_
    refine V_icmp_gt (tgt := 59) dX12_runs_4 rfl (by first | assumption | (unfold ri at *; omega)) (by first | assumption | (unfold ri at *; omega)) (fun b4 => ?_) (fun b4 => ?_)
    · exfalso; omega
    · refine V_iconst dX12_runs_7 ?_
      refine V_is4 dX12_runs_8 (by decide) rfl ?_
      exact w_runs hρ hk hp hE hc (fun f' g' b a1 a2 a3 a4 => ⟨b, rfl, by rw [a4]; constructor; (intro h; rcases h with h | h; exact h; exfalso; omega); exact fun h => Or.inl h, rfl, a1, a2, a3⟩) 0 0 e f g s0 hT hM hs hpos KS.rf KG.rf (by have := (hk.lane (k := 0) (by omega)).1; omega) rfl
  · have e0 : E = 0 := by omega
    subst e0
    refine V_iconst dX12_runs_0 ?_
    refine V_is3n dX12_runs_1 (by decide) rfl ?_
    refine V_il3n dX12_runs_2 ?_
    refine V_il2n dX12_runs_3 ?_
    refine V_icmp_gt (tgt := 59) dX12_runs_4 rfl (by first | assumption | (unfold ri at *; omega)) (by first | assumption | (unfold ri at *; omega)) (fun b4 => ?_) (fun b4 => ?_)
    · refine V_iconst dX12_runs_59 ?_
      exact V_zreturn rfl (by first | exact Or.inl rfl | exact Or.inr rfl | (unfold bz; split <;> simp)) ⟨true, rfl, by simp [rn, hpos], rfl, hM, KS.rf, KG.rf⟩ dX12_runs_60
    · exfalso; omega
theorem KS.km {f f' : IT} (h : KS f f') : KM f f' := fun a k hs => h a k (fun q => by
  obtain ⟨rfl, q⟩ := q
  unfold scM at hs
  simp at hs
  omega)
theorem KG.km {g g' : JT} (h : KG g g') : KM g g' := fun a k hs => by
  rw [h a (fun q => by subst q; cases hs) (fun q => by subst q; cases hs)]
theorem bg_km {f f' : IT} (h : ∀ a k, ¬ (a = 104 ∧ 70 ≤ k ∧ k ≤ 77) → f' a k = f a k) : KM f f' := fun a k hs => h a k (fun q => by
  obtain ⟨rfl, q⟩ := q
  unfold scM at hs
  simp at hs
  omega)
/-- a man as he begins: context and state -/
def c0 (T : TT) (ra : Bool) (sk : Int) (m : Nat) : CC := (false, ra, sk, T 115 m, T 113 m)
def s0 (T : TT) (m : Nat) : SS := (0, T 113 m, T 114 m, 0)
theorem c0_ok {T : TT} (hk : TOK T) {m : Nat} (hm : m < nMe T) {ra : Bool} {sk : Int} (hs : 0 ≤ sk ∧ sk ≤ 30) : CR (c0 T ra sk m) ∧ SR (s0 T m) ∧ (s0 T m).2.2.1 ≠ 0 := by
  have := hk.man hm
  unfold CR SR c0 s0
  simp only
  omega
/-- begins, as the start of a walk -/
theorem c_begins1 {T : TT} {ρ : RT} {f : IT} {g : JT} (hρ : Fx ρ) (hT : MT T f) (hk : TOK T) {m : Nat} (hm : m < nMe T) {sk : Int} {ra : Bool} (hs : f 104 67 = sk) (hr : f 104 68 = bz ra) :
    C_X12_begins [.ref 104, .int (iz (m : Int))] ρ f g (fun r ρ' f' g' => r = none ∧ ρ' = ρ ∧ MS (c0 T ra sk m) (s0 T m) f' ∧ KM f f' ∧ MT T f' ∧ (∀ a k, ¬ (a = 104 ∧ 70 ≤ k ∧ k ≤ 77) → f' a k = f a k) ∧ g' = g) := by
  refine (c_begins hρ hT hk hm hs).mono ?_
  rintro r ρ' f' g' ⟨h1, h2, ⟨e1, e2, e3, e4, e5, e6, e7, e8⟩, h3, h4⟩
  exact ⟨h1, h2, ⟨e3, (h3 104 68 (by omega)).trans hr, e2, e1, e4, e7, e5, e6, e8⟩, bg_km h3, hT.km (bg_km h3), h3, h4⟩
def okM (T : TT) (m : Int) : Bool := decide (0 ≤ m ∧ m < (nMe T : Int))
def okP (T : TT) (p : Int) : Bool := decide (0 ≤ p ∧ p < (nPl T : Int))
def okL (T : TT) (k : Int) : Bool := decide (0 ≤ k ∧ k < (nLa T : Int))
def okH (T : TT) (h : Int) : Bool := decide (0 ≤ h ∧ h < (nHo T : Int))
/-- a man's run by a plan, the first E stretches -/
def rnP (T : TT) (ra : Bool) (sk : Int) (m p E : Nat) : SS := rn T (c0 T ra sk m) (T 117 (T 121 p).toNat) (pce T p) E (s0 T m)
def tells (s : SS) (w : Int) : Int := if s.2.2.1 = 0 then -2 else if w = 0 then s.1 else if w = 1 then s.2.1 else s.2.2.1
def aRun (T : TT) (ra : Bool) (sk m p w : Int) : Int := if (okM T m && okP T p && zin w 0 3) = true then (if w = 3 then (rnP T ra sk m.toNat p.toNat (nLa T)).2.2.2 else tells (rnP T ra sk m.toNat p.toNat (nLa T)) w) else -1
theorem c_mrun {T : TT} {ρ : RT} {f : IT} {g : JT} (hρ : Fx ρ) (hT : MT T f) (hk : TOK T) {sk : Int} {ra : Bool} (hs : f 104 67 = sk) (hsk : 0 ≤ sk ∧ sk ≤ 30) (hr : f 104 68 = bz ra) {m p w : Int} (rm : ri m) (rp : ri p) (rw_ : ri w) :
    C_X12_run [.ref 104, .int (iz m), .int (iz p), .int (iz w)] ρ f g (fun r ρ' f' g' => r = some (.int (iz (aRun T ra sk m p w))) ∧ ρ' = ρ ∧ KM f f' ∧ KM g g') := by
  have h6 := hk.la
  have h5 := hk.me
  have h4 := hk.pl
  have hT1 : MT T (u2 f 104 2 0) := hT.km (KM.u2 rfl KM.rf)
  refine Ct.ofV (by decide) rfl (Nat.le_of_ble_eq_true rfl) ?_
  refine V_al0n dX12_run_0 ?_
  refine V_iconst dX12_run_1 ?_
  refine V_putI kk104 (by decide) fl_X12_154 rfl dX12_run_2 ?_
  refine V_al0n dX12_run_5 ?_
  refine V_il1n dX12_run_6 ?_
  refine V_callV (as := [_]) ml_X12_462 im_X12_isMan se_X12_isMan kk104 (by decide) (by decide) dX12_run_7 rfl rfl (by decide) (by decide) (Nat.le_of_ble_eq_true rfl) (by decide) (by decide) rfl (c_isMan rm ((hT1 104 13 rfl).trans h5.1) (by unfold ri; omega)) ?_
  refine pq4 ?_
  refine V_bt (tgt := 30) dX12_run_10 rfl (fun b10 => ?_) (fun b10 => ?_)
  · refine V_iconst dX12_run_30 ?_
    exact V_ireturn rfl ⟨by unfold aRun okM okP; simp only [*]; simp, rfl, KM.u2 rfl KM.rf, KM.rf⟩ dX12_run_31
  · refine V_al0n dX12_run_13 ?_
    refine V_il2n dX12_run_14 ?_
    refine V_callV (as := [_]) ml_X12_456 im_X12_isPlan se_X12_isPlan kk104 (by decide) (by decide) dX12_run_15 rfl rfl (by decide) (by decide) (Nat.le_of_ble_eq_true rfl) (by decide) (by decide) rfl (c_isPlan rp ((hT1 104 15 rfl).trans h4.1) (by unfold ri; omega)) ?_
    refine pq4 ?_
    refine V_bt (tgt := 30) dX12_run_18 rfl (fun b18 => ?_) (fun b18 => ?_)
    · refine V_iconst dX12_run_30 ?_
      exact V_ireturn rfl ⟨by unfold aRun okM okP; simp only [*]; simp, rfl, KM.u2 rfl KM.rf, KM.rf⟩ dX12_run_31
    · refine V_il3n dX12_run_21 ?_
      refine V_iconst dX12_run_22 ?_
      refine V_iconst dX12_run_23 ?_
      refine V_callS (as := [_, _, _]) ml_X12_199 sm_X12_isIn dX12_run_24 rfl rfl (by decide) (by decide) (Nat.le_of_ble_eq_true rfl) (by decide) (by decide) rfl (c_isIn rw_ (by unfold ri; omega) (by unfold ri; omega)) ?_
      refine pq4 ?_
      refine V_bf (tgt := 32) dX12_run_27 rfl (fun b27 => ?_) (fun b27 => ?_)
      · have c1 := b10
        have c2 := b18
        have c3 := b27
        simp only [decide_eq_true_eq] at c1 c2
        obtain ⟨mN, rfl⟩ : ∃ n : Nat, m = n := ⟨m.toNat, by omega⟩
        obtain ⟨pN, rfl⟩ : ∃ n : Nat, p = n := ⟨p.toNat, by omega⟩
        obtain ⟨k1, k2, k3⟩ := c0_ok hk (m := mN) (by omega) (ra := ra) hsk
        refine V_al0n dX12_run_32 ?_
        refine V_il1n dX12_run_33 ?_
        refine V_callV (as := [_]) ml_X12_467 im_X12_begins se_X12_begins kk104 (by decide) (by decide) dX12_run_34 rfl rfl (by decide) (by decide) (Nat.le_of_ble_eq_true rfl) (by decide) (by decide) rfl (c_begins1 hρ hT1 hk (m := mN) (by omega) (ra := ra) (u2_n (by omega) hs) (u2_n (by omega) hr)) ?_
        rintro r34 ρ34 f34 g34 ⟨rfl, s34_0, hM, km, hT2, kb, rfl⟩
        obtain rfl := s34_0.symm
        refine V_al0n dX12_run_37 ?_
        refine V_il2n dX12_run_38 ?_
        refine V_al0n dX12_run_39 ?_
        refine V_getI kk104 (by decide) fl_X12_250 ((hT2 104 12 rfl).trans h6.1) dX12_run_40 ?_
        refine V_iconst dX12_run_43 ?_
        refine V_isub dX12_run_44 ?_
        refine V_callV (as := [_, _]) ml_X12_473 im_X12_runs se_X12_runs kk104 (by decide) (by decide) dX12_run_45 rfl rfl (by decide) (by decide) (Nat.le_of_ble_eq_true rfl) (by decide) (by decide) rfl (c_runs hρ hT2 hk (p := pN) (E := nLa T) (by omega) (by omega) k1 hM k2 k3) ?_
        rintro r45 ρ45 f45 g45 ⟨bb, rfl, hb, s45_0, hM3, ks, kg⟩
        obtain rfl := s45_0.symm
        refine V_is4 dX12_run_48 (by decide) rfl ?_
        have kk : KM f f45 := (KM.u2 (x := 0) rfl KM.rf).tr (km.tr ks.km)
        obtain ⟨m1, m2, m3, m4, m5, m6, m7, m8, m9⟩ := hM3
        have ea : aRun T ra sk (mN : Int) (pN : Int) w = (if w = 3 then (rnP T ra sk mN pN (nLa T)).2.2.2 else tells (rnP T ra sk mN pN (nLa T)) w) := by unfold aRun okM okP; simp only [b10, b18, b27]; simp
        unfold tells at ea
        unfold rnP at ea
        refine V_il3n dX12_run_50 ?_
        refine V_iconst dX12_run_51 ?_
        refine V_icmp_ne (tgt := 60) dX12_run_52 rfl (by first | assumption | (unfold ri at *; omega)) (by first | assumption | (unfold ri at *; omega)) (fun b52 => ?_) (fun b52 => ?_)
        · refine V_il4 dX12_run_60 ?_
          refine V_bf (tgt := 70) dX12_run_62 rfl (fun b62 => ?_) (fun b62 => ?_)
          · have hb2 := hb.mp b62
            refine V_il3n dX12_run_70 ?_
            refine V_if_ne (tgt := 81) dX12_run_71 rfl (by first | assumption | (unfold ri at *; omega)) (fun b71 => ?_) (fun b71 => ?_)
            · refine V_il3n dX12_run_81 ?_
              refine V_iconst dX12_run_82 ?_
              refine V_icmp_ne (tgt := 93) dX12_run_83 rfl (by first | assumption | (unfold ri at *; omega)) (by first | assumption | (unfold ri at *; omega)) (fun b83 => ?_) (fun b83 => ?_)
              · refine V_al0n dX12_run_93 ?_
                refine V_getI kk104 (by decide) fl_X12_420 m8 dX12_run_94 ?_
                exact V_ireturn rfl ⟨by rw [ea]; first | (rw [if_pos (by omega)]; done) | (rw [if_neg (by omega), if_pos (by omega)]; done) | (rw [if_neg (by omega), if_neg (by omega), if_pos (by omega)]; done) | (rw [if_neg (by omega), if_neg (by omega), if_neg (by omega), if_pos (by omega)]; done) | (rw [if_neg (by omega), if_neg (by omega), if_neg (by omega), if_neg (by omega)]; done), rfl, kk, kg.km⟩ dX12_run_97
              · refine V_al0n dX12_run_86 ?_
                refine V_getI kk104 (by decide) fl_X12_417 m7 dX12_run_87 ?_
                refine V_goto (tgt := 97) dX12_run_90 rfl ?_
                exact V_ireturn rfl ⟨by rw [ea]; first | (rw [if_pos (by omega)]; done) | (rw [if_neg (by omega), if_pos (by omega)]; done) | (rw [if_neg (by omega), if_neg (by omega), if_pos (by omega)]; done) | (rw [if_neg (by omega), if_neg (by omega), if_neg (by omega), if_pos (by omega)]; done) | (rw [if_neg (by omega), if_neg (by omega), if_neg (by omega), if_neg (by omega)]; done), rfl, kk, kg.km⟩ dX12_run_97
            · refine V_al0n dX12_run_74 ?_
              refine V_getI kk104 (by decide) fl_X12_441 m6 dX12_run_75 ?_
              refine V_goto (tgt := 97) dX12_run_78 rfl ?_
              exact V_ireturn rfl ⟨by rw [ea]; first | (rw [if_pos (by omega)]; done) | (rw [if_neg (by omega), if_pos (by omega)]; done) | (rw [if_neg (by omega), if_neg (by omega), if_pos (by omega)]; done) | (rw [if_neg (by omega), if_neg (by omega), if_neg (by omega), if_pos (by omega)]; done) | (rw [if_neg (by omega), if_neg (by omega), if_neg (by omega), if_neg (by omega)]; done), rfl, kk, kg.km⟩ dX12_run_97
          · have hb2 : ¬ (rn T (c0 T ra sk mN) (T 117 (T 121 pN).toNat) (pce T pN) (nLa T) (s0 T mN)).2.2.1 ≠ 0 := fun h => by rw [hb.mpr h] at b62; cases b62
            refine V_bipush dX12_run_65 rfl ?_
            refine V_goto (tgt := 97) dX12_run_67 rfl ?_
            exact V_ireturn rfl ⟨by rw [ea]; first | (rw [if_pos (by omega)]; done) | (rw [if_neg (by omega), if_pos (by omega)]; done) | (rw [if_neg (by omega), if_neg (by omega), if_pos (by omega)]; done) | (rw [if_neg (by omega), if_neg (by omega), if_neg (by omega), if_pos (by omega)]; done) | (rw [if_neg (by omega), if_neg (by omega), if_neg (by omega), if_neg (by omega)]; done), rfl, kk, kg.km⟩ dX12_run_97
        · refine V_al0n dX12_run_55 ?_
          refine V_getI kk104 (by decide) fl_X12_447 m9 dX12_run_56 ?_
          exact V_ireturn rfl ⟨by rw [ea]; first | (rw [if_pos (by omega)]; done) | (rw [if_neg (by omega), if_pos (by omega)]; done) | (rw [if_neg (by omega), if_neg (by omega), if_pos (by omega)]; done) | (rw [if_neg (by omega), if_neg (by omega), if_neg (by omega), if_pos (by omega)]; done) | (rw [if_neg (by omega), if_neg (by omega), if_neg (by omega), if_neg (by omega)]; done), rfl, kk, kg.km⟩ dX12_run_59
      · refine V_iconst dX12_run_30 ?_
        exact V_ireturn rfl ⟨by unfold aRun okM okP; simp only [*]; simp, rfl, KM.u2 rfl KM.rf, KM.rf⟩ dX12_run_31

