/-! one who walks: tenths, wind, legs, steps; under flat, rain, sack, weight, the most wind -/
abbrev SS : Type := Int × Int × Int × Int
abbrev CC : Type := Bool × Bool × Int × Int × Int
def one (T : TT) (c : CC) (k : Nat) (hc pa : Int) (s : SS) : SS := (s.1 + sTi T k c.1 c.2.1 c.2.2.1 c.2.2.2.1 pa s.2.1 s.2.2.1, sWi T k c.1 c.2.1 c.2.2.1 c.2.2.2.1 c.2.2.2.2 hc pa s.2.1 s.2.2.1, sLe T k c.1 c.2.1 c.2.2.1 c.2.2.2.1 pa s.2.1 s.2.2.1, s.2.2.2 + 1)
/-- the reference holds this walk -/
def MS (c : CC) (s : SS) (f : IT) : Prop := f 104 72 = bz c.1 ∧ f 104 68 = bz c.2.1 ∧ f 104 71 = c.2.2.1 ∧ f 104 70 = c.2.2.2.1 ∧ f 104 73 = c.2.2.2.2 ∧ f 104 76 = s.1 ∧ f 104 74 = s.2.1 ∧ f 104 75 = s.2.2.1 ∧ f 104 77 = s.2.2.2
def CR (c : CC) : Prop := (0 ≤ c.2.2.1 ∧ c.2.2.1 ≤ 30) ∧ (0 ≤ c.2.2.2.1 ∧ c.2.2.2.1 ≤ 30) ∧ (0 ≤ c.2.2.2.2 ∧ c.2.2.2.2 ≤ 60)
def SR (s : SS) : Prop := (0 ≤ s.2.1 ∧ s.2.1 ≤ 60) ∧ (0 ≤ s.2.2.1 ∧ s.2.2.1 ≤ 60)
/-- what a walk of the reference's may change -/
def KS (f f' : IT) : Prop := ∀ a k, ¬ (a = 104 ∧ (k = 66 ∨ 74 ≤ k ∧ k ≤ 77)) → f' a k = f a k
def KG (g g' : JT) : Prop := ∀ a, a ≠ 135 → a ≠ 136 → g' a = g a
theorem KS.rf {f : IT} : KS f f := fun _ _ _ => rfl
theorem KG.rf {g : JT} : KG g g := fun _ _ _ => rfl
theorem KS.tr {f f' f'' : IT} (h : KS f f') (h' : KS f' f'') : KS f f'' := fun a k q => (h' a k q).trans (h a k q)
theorem KG.tr {g g' g'' : JT} (h : KG g g') (h' : KG g' g'') : KG g g'' := fun a q r => (h' a q r).trans (h a q r)
theorem KS.mt {T : TT} {f f' : IT} (h : KS f f') (hT : MT T f) : MT T f' := fun a k ht => (h a k (fun q => by
  unfold tx half at ht
  obtain ⟨rfl, q⟩ := q
  simp at ht
  omega)).trans (hT a k ht)
theorem one_rng {T : TT} (hk : TOK T) {c : CC} (hc : CR c) {k : Nat} (hl : k < nLa T) {h : Nat} (hh : h < nHo T) {pa : Int} (hp : 1 ≤ pa ∧ pa ≤ 9) {s : SS} (hs : SR s) : SR (one T c k (T 117 h) pa s) ∧ (one T c k (T 117 h) pa s).2.2.1 ≤ s.2.2.1 ∧ (1 ≤ (one T c k (T 117 h) pa s).1 - s.1 ∧ (one T c k (T 117 h) pa s).1 - s.1 ≤ 99) := by
  obtain ⟨s1, s2, s3⟩ := s_rng hk hl (fl := c.1) (ra := c.2.1) (sk := c.2.2.1) (wt := c.2.2.2.1) (wi := s.2.1) (le := s.2.2.1) hp
  obtain ⟨-, -, c3⟩ := hc
  unfold SR at *
  simp only [one, sWi, sLe]
  refine ⟨⟨?_, ?_⟩, ?_, by omega⟩ <;> (repeat' split) <;> omega
theorem c_step1 {T : TT} {ρ : RT} {f : IT} {g : JT} (hρ : Fx ρ) (hT : MT T f) (hk : TOK T) {k h : Nat} (hl : k < nLa T) (hh : h < nHo T) {c : CC} {s : SS} (hM : MS c s f) (hc : CR c) (hs : SR s) {pa : Int} (hp : 1 ≤ pa ∧ pa ≤ 9) :
    C_X12_step [.ref 104, .int (iz (k : Int)), .int (iz (h : Int)), .int (iz pa)] ρ f g (fun r ρ' f' g' => r = none ∧ ρ' = ρ ∧ MS c (one T c k (T 117 h) pa s) f' ∧ KS f f' ∧ KG g g') := by
  obtain ⟨m1, m2, m3, m4, m5, m6, m7, m8, m9⟩ := hM
  refine (c_step hρ hT hk hl hh m2 m1 m3 m4 m5 m7 m8 m6 m9 hc.1 hc.2.1 hs.1 hs.2 hp hc.2.2).mono ?_
  rintro r ρ' f' g' ⟨h1, h2, h3, h4, h5, h6, h7, h8⟩
  exact ⟨h1, h2, ⟨(h7 104 72 (by omega)).trans m1, (h7 104 68 (by omega)).trans m2, (h7 104 71 (by omega)).trans m3, (h7 104 70 (by omega)).trans m4, (h7 104 73 (by omega)).trans m5, h3, h4, h5, h6⟩, h7, h8⟩
/-- n steps in a stretch at a pace, as far as he isn't out -/
def thr (T : TT) (c : CC) (k : Nat) (hc pa : Int) : Nat → SS → SS
  | 0, s => s
  | n + 1, s => if s.2.2.1 = 0 then s else thr T c k hc pa n (one T c k hc pa s)
theorem thr_out {T : TT} {c : CC} {k : Nat} {hc pa : Int} {n : Nat} {s : SS} (h : s.2.2.1 = 0) : thr T c k hc pa n s = s := by cases n <;> simp [thr, h]
theorem thr_rng {T : TT} (hk : TOK T) {c : CC} (hc : CR c) {k : Nat} (hl : k < nLa T) {h : Nat} (hh : h < nHo T) {pa : Int} (hp : 1 ≤ pa ∧ pa ≤ 9) : ∀ (n : Nat) (s : SS), SR s → SR (thr T c k (T 117 h) pa n s) ∧ s.1 ≤ (thr T c k (T 117 h) pa n s).1 ∧ (thr T c k (T 117 h) pa n s).1 ≤ s.1 + 99 * n
  | 0, s, hs => ⟨hs, by simp [thr]⟩
  | n + 1, s, hs => by
    unfold thr
    split
    · exact ⟨hs, by omega⟩
    · have h1 := one_rng hk hc hl hh hp hs
      have h2 := thr_rng hk hc hl hh hp n _ h1.1
      exact ⟨h2.1, by omega⟩
/-- the first j stretches at paces, with a hold -/
def rn (T : TT) (c : CC) (hc : Int) (pc : Nat → Int) : Nat → SS → SS
  | 0, s => s
  | j + 1, s => thr T c j hc (pc j) (T 108 j).toNat (rn T c hc pc j s)
theorem rn_rng {T : TT} (hk : TOK T) {c : CC} (hc : CR c) {h : Nat} (hh : h < nHo T) {pc : Nat → Int} (hp : ∀ k, 1 ≤ pc k ∧ pc k ≤ 9) {s : SS} (hs : SR s) : ∀ j : Nat, j ≤ nLa T → SR (rn T c (T 117 h) pc j s) ∧ s.1 ≤ (rn T c (T 117 h) pc j s).1 ∧ (rn T c (T 117 h) pc j s).1 ≤ s.1 + 1980 * j
  | 0, _ => ⟨hs, by simp [rn]⟩
  | j + 1, hj => by
    have h1 := rn_rng hk hc hh hp hs j (by omega)
    have h2 := thr_rng hk hc (k := j) (by omega) hh (hp j) (T 108 j).toNat _ h1.1
    have h3 := (hk.lane (k := j) (by omega)).1
    refine ⟨h2.1, ?_⟩
    simp only [rn]
    omega
theorem rn_out {T : TT} {c : CC} {hc : Int} {pc : Nat → Int} {s : SS} {i : Nat} (h : (rn T c hc pc i s).2.2.1 = 0) : ∀ j : Nat, i ≤ j → rn T c hc pc j s = rn T c hc pc i s
  | 0, hj => by rw [show i = 0 by omega]
  | j + 1, hj => by
    by_cases e : i = j + 1
    · rw [e]
    · have h1 := rn_out h j (by omega)
      simp only [rn]
      rw [h1]
      exact thr_out h
theorem w_runs {T : TT} {Q : QT} {ρ : RT} {f0 : IT} {g0 : JT} (hρ : Fx ρ) (hk : TOK T) {p E : Nat} (hp : p < nPl T) (hE : E ≤ nLa T) {c : CC} (hc : CR c) {s0 : SS}
    (hQ : ∀ (f : IT) (g : JT) (b : Bool), MS c (rn T c (T 117 (T 121 p).toNat) (pce T p) E s0) f → KS f0 f → KG g0 g → (b = true ↔ (rn T c (T 117 (T 121 p).toNat) (pce T p) E s0).2.2.1 ≠ 0 ∨ E = 0) → Q (some (.int (iz (bz b)))) ρ f g)
    (k i : Nat) (hkE : k < E) (f : IT) (g : JT) (s : SS) (hT : MT T f) (hM : MS c s f) (hs : SR s) (hpos : s.2.2.1 ≠ 0) (hf : KS f0 f) (hg : KG g0 g) (hi : (i : Int) ≤ T 108 k) (hr : rn T c (T 117 (T 121 p).toNat) (pce T p) (k + 1) s0 = thr T c k (T 117 (T 121 p).toNat) (pce T p k) ((T 108 k).toNat - i) s) :
    V_X12_runs Q 10 [.ref 104, .int (iz (p : Int)), .int (iz ((E : Int) - 1)), .int (iz (k : Int)), .int (iz (i : Int))] [] ρ f g := by
  have h6 := hk.la
  have h5 := hk.pl
  have hlk := (hk.lane (k := k) (by omega)).1
  have hpl := (hk.plan hp).1
  have hho := hk.ho
  have hpp := pce_rng hk (k := k) hp
  have hh : (T 121 p).toNat < nHo T := by omega
  have eh : T 121 p = (((T 121 p).toNat : Nat) : Int) := by omega
  refine V_il4 dX12_runs_10 ?_
  refine V_al0n dX12_runs_12 ?_
  refine V_getR kk104 (by decide) fl_X12_23 (fx_104_31 hρ) dX12_runs_13 ?_
  refine V_il3n dX12_runs_16 ?_
  refine V_iald (k := k) kk108 (by decide) (by first | rfl | omega) (by omega) (by first | decide | assumption | omega) (hT.at rfl (by omega : k < 6)) dX12_runs_17 ?_
  refine V_icmp_ge (tgt := 53) dX12_runs_18 rfl (by first | assumption | (unfold ri at *; omega)) (by first | assumption | (unfold ri at *; omega)) (fun b18 => ?_) (fun b18 => ?_)
  · refine V_inc3 dX12_runs_53 (by decide) rfl ?_
    refine V_goto (tgt := 2) dX12_runs_56 rfl ?_
    have hr1 : rn T c (T 117 (T 121 p).toNat) (pce T p) (k + 1) s0 = s := by rw [hr, show (T 108 k).toNat - i = 0 by omega]; rfl
    by_cases e : k + 1 < E
    · refine V_il3n dX12_runs_2 ?_
      refine V_il2n dX12_runs_3 ?_
      refine V_icmp_gt (tgt := 59) dX12_runs_4 rfl (by unfold ri; omega) (by unfold ri; omega) (fun b4 => by exfalso; omega) (fun b4 => ?_)
      refine V_iconst dX12_runs_7 ?_
      refine V_is4 dX12_runs_8 (by decide) rfl ?_
      exact w_runs hρ hk hp hE hc hQ (k + 1) 0 e f g s hT hM hs hpos hf hg (by have := (hk.lane (k := k + 1) (by omega)).1; omega) (by simp only [rn] at hr1 ⊢; rw [hr1]; rfl)
    · have eE : E = k + 1 := by omega
      subst eE
      refine V_il3n dX12_runs_2 ?_
      refine V_il2n dX12_runs_3 ?_
      refine V_icmp_gt (tgt := 59) dX12_runs_4 rfl (by unfold ri; omega) (by unfold ri; omega) (fun b4 => ?_) (fun b4 => by exfalso; omega)
      refine V_iconst dX12_runs_59 ?_
      exact V_zreturn rfl (Or.inr rfl) (hQ f g true (by rw [hr1]; exact hM) hf hg (by rw [hr1]; simp [hpos])) dX12_runs_60
  · refine V_al0n dX12_runs_21 ?_
    refine V_il3n dX12_runs_22 ?_
    refine V_al0n dX12_runs_23 ?_
    refine V_getR kk104 (by decide) fl_X12_63 (fx_104_44 hρ) dX12_runs_24 ?_
    refine V_il1n dX12_runs_27 ?_
    refine V_iald (k := p) kk121 (by decide) (by first | rfl | omega) (by omega) (by first | decide | assumption | omega) ((hT.at rfl (by omega : p < 5)).trans eh) dX12_runs_28 ?_
    refine V_al0n dX12_runs_29 ?_
    refine V_il1n dX12_runs_30 ?_
    refine V_il3n dX12_runs_31 ?_
    refine V_callV (as := [_, _]) ml_X12_459 im_X12_paceOf se_X12_paceOf kk104 (by decide) (by decide) dX12_runs_32 rfl rfl (by decide) (by decide) (Nat.le_of_ble_eq_true rfl) (by decide) (by decide) rfl (c_paceOf hρ hT hk hp (by omega : k < 6)) ?_
    refine pq4 ?_
    refine V_callV (as := [_, _, _]) ml_X12_470 im_X12_step se_X12_step kk104 (by decide) (by decide) dX12_runs_35 rfl rfl (by decide) (by decide) (Nat.le_of_ble_eq_true rfl) (by decide) (by decide) rfl (c_step1 hρ hT hk (by omega) hh hM hc hs hpp) ?_
    rintro r35 ρ35 f35 g35 ⟨rfl, s35_0, hM1, ks1, kg1⟩
    obtain rfl := s35_0.symm
    have hr1 := hr
    rw [show (T 108 k).toNat - i = ((T 108 k).toNat - (i + 1)) + 1 by omega, thr, if_neg hpos] at hr1
    have hs1 := (one_rng hk hc (by omega : k < nLa T) hh hpp hs).1
    refine V_al0n dX12_runs_38 ?_
    refine V_getI kk104 (by decide) fl_X12_420 hM1.2.2.2.2.2.2.2.1 dX12_runs_39 ?_
    refine V_if_ne (tgt := 47) dX12_runs_42 rfl (by unfold SR at hs1; unfold ri; omega) (fun b42 => ?_) (fun b42 => ?_)
    · refine V_inc4 dX12_runs_47 (by decide) rfl ?_
      refine V_goto (tgt := 10) dX12_runs_50 rfl ?_
      exact w_runs hρ hk hp hE hc hQ k (i + 1) hkE f35 g35 _ (ks1.mt hT) hM1 hs1 b42 (hf.tr ks1) (hg.tr kg1) (by omega) hr1
    · rw [thr_out b42] at hr1
      have ho := rn_out (j := E) (by rw [hr1]; exact b42) (by omega)
      refine V_iconst dX12_runs_45 ?_
      exact V_zreturn rfl (by first | exact Or.inl rfl | exact Or.inr rfl | (unfold bz; split <;> simp)) (hQ f35 g35 false (by rw [ho, hr1]; exact hM1) (hf.tr ks1) (hg.tr kg1) (by rw [ho, hr1]; simp [b42]; omega)) dX12_runs_46
termination_by (E - k, (T 108 k).toNat - i)

