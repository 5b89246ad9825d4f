theorem tenR_rng {T : TT} (hk : TOK T) {c : CC} (hc : CR c) {h : Nat} (hh : h < nHo T) {pc : Nat → Int} (hp : ∀ k, 1 ≤ pc k ∧ pc k ≤ 9) {x0 : RS} (hs : SR x0.1) : ∀ j : Nat, j ≤ nLa T → SR (rnS T c h pc j x0).1 ∧ x0.1.1 ≤ (rnS T c h pc j x0).1.1 ∧ (rnS T c h pc j x0).1.1 ≤ x0.1.1 + 3960 * j
  | 0, _ => ⟨hs, by simp [rnS]⟩
  | j + 1, hj => by
    have h1 := tenR_rng hk hc hh hp hs j (by omega)
    have hl := (hk.lane (k := j) (by omega)).1
    have hho := hk.hold hh
    have key : ∀ (n : Nat) (x : RS), SR x.1 → SR (thS T c j h (pc j) n x).1 ∧ x.1.1 ≤ (thS T c j h (pc j) n x).1.1 ∧ (thS T c j h (pc j) n x).1.1 ≤ x.1.1 + 198 * n := by
      intro n
      induction n with
      | zero => intro x hx; exact ⟨hx, by simp [thS]⟩
      | succ n ih =>
        intro x hx
        unfold thS
        split
        · exact ⟨hx, by omega⟩
        · have o := one_rng hk hc (k := j) (by omega) hh (hp j) hx
          have e : SR (onS T c j h (pc j) x).1 ∧ x.1.1 ≤ (onS T c j h (pc j) x).1.1 ∧ (onS T c j h (pc j) x).1.1 ≤ x.1.1 + 198 := by
            unfold onS
            simp only
            split
            · refine ⟨o.1, ?_⟩
              simp only
              omega
            · exact ⟨o.1, by omega⟩
          have := ih _ e.1
          exact ⟨this.1, by omega⟩
    have h2 := key (T 108 j).toNat _ h1.1
    refine ⟨h2.1, ?_⟩
    simp only [rnS]
    omega
theorem tenR_ri {T : TT} (hk : TOK T) {ra : Bool} {sk : Int} (hsk : 0 ≤ sk ∧ sk ≤ 30) {m p : Nat} (hm : m < nMe T) (hp : p < nPl T) (d : Int) : 0 ≤ tenR (rcS T ra sk m p d) ∧ tenR (rcS T ra sk m p d) ≤ 99999 := by
  obtain ⟨k1, k2, k3⟩ := c0_ok hk hm (ra := ra) hsk
  have hpl := (hk.plan hp).1
  have hho := hk.ho
  have h6 := hk.la
  have := tenR_rng hk k1 (h := (T 121 p).toNat) (by omega) (pc := pce T p) (fun k => pce_rng hk hp) (x0 := (s0 T m, d)) k2 (nLa T) (by omega)
  unfold tenR rcS
  split
  · omega
  · have e0 : (s0 T m).1 = 0 := rfl
    simp only [e0] at this
    omega
/-- ten races: how often a time is beaten -/
def beatR (T : TT) (ra : Bool) (sk : Int) (m p : Nat) (most : Int) : Nat → Int × Int → Int × Int
  | 0, x => x
  | n + 1, x => beatR T ra sk m p most n (x.1 + bz (decide (tenR (rcS T ra sk m p x.2) < 99999 ∧ tenR (rcS T ra sk m p x.2) ≤ most)), (rcS T ra sk m p x.2).2)
theorem KR.back {g g' : JT} (h : KR g g') {d : Int} (hd : g 104 69 = d) : KM g (u2 g' 104 69 d) := fun a k hs => by
  by_cases e : a = 104 ∧ k = 69
  · rw [e.1, e.2, u2_s, hd]
  · rw [u2_o e]
    refine h a k (fun q => ?_)
    rcases q with q | q | q
    · subst q; cases hs
    · subst q; cases hs
    · exact e q
theorem w_beats {T : TT} {Q : QT} {ρ : RT} {f0 : IT} {g0 : JT} (hρ : Fx ρ) (hk : TOK T) {sk : Int} {ra : Bool} (hs : f0 104 67 = sk) (hsk : 0 ≤ sk ∧ sk ≤ 30) (hr : f0 104 68 = bz ra) {m p : Nat} (hm : m < nMe T) (hp : p < nPl T) {most sd d0 R : Int} (hmo : ri most) (hT0 : MT T f0)
    (hQ : ∀ (f : IT) (g : JT), KM f0 f → KR g0 g → Q (some (.int (iz R))) ρ f (u2 g 104 69 d0))
    (i : Nat) (hi : i ≤ 10) (n d : Int) (f : IT) (g : JT) (a9 : Value) (hf : KM f0 f) (hg : KR g0 g) (hd : g 104 69 = d) (hR : (beatR T ra sk m p most (10 - i) (n, d)).1 = R) :
    V_X12_beats Q 56 [.ref 104, .int (iz sd), .int (iz (m : Int)), .int (iz (p : Int)), .int (iz most), .long (lz d0), .null, .int (iz n), .int (iz (i : Int)), a9] [] ρ f g := by
  have hten := tenR_ri hk (ra := ra) hsk hm hp d
  have hT := hT0.km hf
  refine V_il8 dX12_beats_56 ?_
  refine V_bipush dX12_beats_58 rfl ?_
  refine V_icmp_ge (tgt := 101) dX12_beats_60 rfl (by first | assumption | (unfold ri at *; omega)) (by first | assumption | (unfold ri at *; omega)) (fun b60 => ?_) (fun b60 => ?_)
  · rw [show 10 - i = 0 by omega] at hR
    simp only [beatR] at hR
    subst hR
    refine V_al0n dX12_beats_101 ?_
    refine V_ll5 dX12_beats_102 ?_
    refine V_putJ kk104 (by decide) fl_X12_288 rfl dX12_beats_104 ?_
    refine V_il7 dX12_beats_107 ?_
    exact V_ireturn rfl (hQ f g hf hg) dX12_beats_109
  · rw [show 10 - i = (10 - (i + 1)) + 1 by omega, beatR] at hR
    refine V_al0n dX12_beats_63 ?_
    refine V_il2n dX12_beats_64 ?_
    refine V_il3n dX12_beats_65 ?_
    refine V_callV (as := [_, _]) ml_X12_576 im_X12_races se_X12_races kk104 (by decide) (by decide) dX12_beats_66 rfl rfl (by decide) (by decide) (Nat.le_of_ble_eq_true rfl) (by decide) (by decide) rfl (c_races hρ hT hk (ra := ra) ((hf 104 67 rfl).trans hs) hsk ((hf 104 68 rfl).trans hr) hm hp hd) ?_
    rintro r66 ρ66 f66 g66 ⟨rfl, s66_0, kf, kg, hd1⟩
    obtain rfl := s66_0.symm
    refine V_is9 dX12_beats_69 (by decide) rfl ?_
    refine V_il7 dX12_beats_71 ?_
    refine V_il9 dX12_beats_73 ?_
    refine V_ldc (a := 99999) kc_X12_192 rfl dX12_beats_75 ?_
    refine V_icmp_ge (tgt := 91) dX12_beats_77 rfl (by first | assumption | (unfold ri at *; omega)) (by first | assumption | (unfold ri at *; omega)) (fun b77 => ?_) (fun b77 => ?_)
    · refine V_iconst dX12_beats_91 ?_
      refine V_iadd dX12_beats_92 ?_
      refine V_is7 dX12_beats_93 (by decide) rfl ?_
      refine V_inc8 dX12_beats_95 (by decide) rfl ?_
      refine V_goto (tgt := 56) dX12_beats_98 rfl ?_
      exact w_beats hρ hk hs hsk hr hm hp hmo hT0 hQ (i + 1) (by omega) _ _ _ _ _ (hf.tr kf) (hg.tr kg) hd1 (by rw [← hR]; congr 2; unfold bz; split <;> simp_all <;> omega)
    · refine V_il9 dX12_beats_80 ?_
      refine V_il4 dX12_beats_82 ?_
      refine V_icmp_gt (tgt := 91) dX12_beats_84 rfl (by first | assumption | (unfold ri at *; omega)) (by first | assumption | (unfold ri at *; omega)) (fun b84 => ?_) (fun b84 => ?_)
      · refine V_iconst dX12_beats_91 ?_
        refine V_iadd dX12_beats_92 ?_
        refine V_is7 dX12_beats_93 (by decide) rfl ?_
        refine V_inc8 dX12_beats_95 (by decide) rfl ?_
        refine V_goto (tgt := 56) dX12_beats_98 rfl ?_
        exact w_beats hρ hk hs hsk hr hm hp hmo hT0 hQ (i + 1) (by omega) _ _ _ _ _ (hf.tr kf) (hg.tr kg) hd1 (by rw [← hR]; congr 2; unfold bz; split <;> simp_all <;> omega)
      · refine V_iconst dX12_beats_87 ?_
        refine V_goto (tgt := 92) dX12_beats_88 rfl ?_
        refine V_iadd dX12_beats_92 ?_
        refine V_is7 dX12_beats_93 (by decide) rfl ?_
        refine V_inc8 dX12_beats_95 (by decide) rfl ?_
        refine V_goto (tgt := 56) dX12_beats_98 rfl ?_
        exact w_beats hρ hk hs hsk hr hm hp hmo hT0 hQ (i + 1) (by omega) _ _ _ _ _ (hf.tr kf) (hg.tr kg) hd1 (by rw [← hR]; congr 2; unfold bz; split <;> simp_all <;> omega)
termination_by 10 - i
def aBeats (T : TT) (ra : Bool) (sk seed m p most : Int) : Int := if (decide (0 ≤ seed) && okM T m && okP T p && zin most 0 99999) = true then (beatR T ra sk m.toNat p.toNat most 10 (0, seed)).1 else -1
theorem c_mbeats {T : TT} {ρ : RT} {f : IT} {g : JT} (hρ : Fx ρ) (hT : MT T f) (hk : TOK T) {sk : Int} {ra : Bool} (hs : f 104 67 = sk) (hsk : 0 ≤ sk ∧ sk ≤ 30) (hr : f 104 68 = bz ra) {sd m p w : Int} (rsd : ri sd) (rm : ri m) (rp : ri p) (rw_ : ri w) :
    C_X12_beats [.ref 104, .int (iz sd), .int (iz m), .int (iz p), .int (iz w)] ρ f g (fun r ρ' f' g' => r = some (.int (iz (aBeats T ra sk sd m p w))) ∧ ρ' = ρ ∧ KM f f' ∧ KM g g') := by
  have h5 := hk.me
  have h4 := hk.pl
  have hT1 : MT T (u2 f 104 2 0) := hT.km (KM.u2 rfl KM.rf)
  refine Ct.ofV (by decide) rfl (Nat.le_of_ble_eq_true rfl) ?_
  refine V_al0n dX12_beats_0 ?_
  refine V_iconst dX12_beats_1 ?_
  refine V_putI kk104 (by decide) fl_X12_154 rfl dX12_beats_2 ?_
  refine V_il1n dX12_beats_5 ?_
  refine V_if_lt (tgt := 36) dX12_beats_6 rfl (by first | assumption | (unfold ri at *; omega)) (fun b6 => ?_) (fun b6 => ?_)
  · refine V_iconst dX12_beats_36 ?_
    exact V_ireturn rfl ⟨by unfold aBeats okM okP; first | (simp only [*]; simp; done) | (rw [if_neg]; simp only [Bool.and_eq_true, decide_eq_true_eq]; omega), rfl, KM.u2 rfl KM.rf, KM.rf⟩ dX12_beats_37
  · refine V_al0n dX12_beats_9 ?_
    refine V_il2n dX12_beats_10 ?_
    refine V_callV (as := [_]) ml_X12_462 im_X12_isMan se_X12_isMan kk104 (by decide) (by decide) dX12_beats_11 rfl rfl (by decide) (by decide) (Nat.le_of_ble_eq_true rfl) (by decide) (by decide) rfl (c_isMan rm ((hT1 104 13 rfl).trans h5.1) (by unfold ri; omega)) ?_
    refine pq4 ?_
    refine V_bt (tgt := 36) dX12_beats_14 rfl (fun b14 => ?_) (fun b14 => ?_)
    · refine V_iconst dX12_beats_36 ?_
      exact V_ireturn rfl ⟨by unfold aBeats okM okP; first | (simp only [*]; simp; done) | (rw [if_neg]; simp only [Bool.and_eq_true, decide_eq_true_eq]; omega), rfl, KM.u2 rfl KM.rf, KM.rf⟩ dX12_beats_37
    · refine V_al0n dX12_beats_17 ?_
      refine V_il3n dX12_beats_18 ?_
      refine V_callV (as := [_]) ml_X12_456 im_X12_isPlan se_X12_isPlan kk104 (by decide) (by decide) dX12_beats_19 rfl rfl (by decide) (by decide) (Nat.le_of_ble_eq_true rfl) (by decide) (by decide) rfl (c_isPlan rp ((hT1 104 15 rfl).trans h4.1) (by unfold ri; omega)) ?_
      refine pq4 ?_
      refine V_bt (tgt := 36) dX12_beats_22 rfl (fun b22 => ?_) (fun b22 => ?_)
      · refine V_iconst dX12_beats_36 ?_
        exact V_ireturn rfl ⟨by unfold aBeats okM okP; first | (simp only [*]; simp; done) | (rw [if_neg]; simp only [Bool.and_eq_true, decide_eq_true_eq]; omega), rfl, KM.u2 rfl KM.rf, KM.rf⟩ dX12_beats_37
      · refine V_il4 dX12_beats_25 ?_
        refine V_iconst dX12_beats_27 ?_
        refine V_ldc (a := 99999) kc_X12_192 rfl dX12_beats_28 ?_
        refine V_callS (as := [_, _, _]) ml_X12_199 sm_X12_isIn dX12_beats_30 rfl rfl (by decide) (by decide) (Nat.le_of_ble_eq_true rfl) (by decide) (by decide) rfl (c_isIn rw_ (by unfold ri; omega) (by unfold ri; omega)) ?_
        refine pq4 ?_
        refine V_bf (tgt := 38) dX12_beats_33 rfl (fun b33 => ?_) (fun b33 => ?_)
        · have c1 := b14
          have c2 := b22
          simp only [decide_eq_true_eq] at c1 c2
          obtain ⟨mN, rfl⟩ : ∃ n : Nat, m = n := ⟨m.toNat, by omega⟩
          obtain ⟨pN, rfl⟩ : ∃ n : Nat, p = n := ⟨p.toNat, by omega⟩
          have ea : aBeats T ra sk sd (mN : Int) (pN : Int) w = (beatR T ra sk mN pN w 10 (0, sd)).1 := by unfold aBeats okM okP; simp only [b14, b22, b33, decide_eq_true (show 0 ≤ sd by omega)]; simp
          refine V_al0n dX12_beats_38 ?_
          refine V_getJ kk104 (by decide) fl_X12_288 rfl dX12_beats_39 ?_
          refine V_ls5 dX12_beats_42 (by decide) rfl ?_
          refine V_al0n dX12_beats_44 ?_
          refine V_il1n dX12_beats_45 ?_
          refine V_i2l dX12_beats_46 (by first | assumption | (unfold ri at *; omega)) ?_
          refine V_putJ kk104 (by decide) fl_X12_288 rfl dX12_beats_47 ?_
          refine V_iconst dX12_beats_50 ?_
          refine V_is7 dX12_beats_51 (by decide) rfl ?_
          refine V_iconst dX12_beats_53 ?_
          refine V_is8 dX12_beats_54 (by decide) rfl ?_
          exact w_beats hρ hk (f0 := u2 f 104 2 0) (g0 := g) (ra := ra) (u2_n (by omega) hs) hsk (u2_n (by omega) hr) (m := mN) (p := pN) (by omega) (by omega) rw_ hT1 (fun f' g' a1 a2 => ⟨rfl, rfl, (KM.u2 (x := 0) rfl KM.rf).tr a1, a2.back rfl⟩) 0 (by omega) 0 sd _ _ _ KM.rf KR.dr u2_s ea.symm
        · refine V_iconst dX12_beats_36 ?_
          exact V_ireturn rfl ⟨by unfold aBeats okM okP; first | (simp only [*]; simp; done) | (rw [if_neg]; simp only [Bool.and_eq_true, decide_eq_true_eq]; omega), rfl, KM.u2 rfl KM.rf, KM.rf⟩ dX12_beats_37

