/-! the search: through a stretch -/
theorem one_dn {T : TT} {c : CC} {k : Nat} {hc pa : Int} {a b w l : Int} {d1 d2 : Int} : (one T c k hc pa (a, w, l, d1)).1 = (one T c k hc pa (b, w, l, d2)).1 + (a - b) ∧ (one T c k hc pa (a, w, l, d1)).2.1 = (one T c k hc pa (b, w, l, d2)).2.1 ∧ (one T c k hc pa (a, w, l, d1)).2.2.1 = (one T c k hc pa (b, w, l, d2)).2.2.1 := ⟨by simp only [one]; omega, rfl, rfl⟩
theorem thr_dn {T : TT} {c : CC} {k : Nat} {hc pa : Int} : ∀ (n : Nat) (s t : SS), s.2.1 = t.2.1 → s.2.2.1 = t.2.2.1 → (thr T c k hc pa n s).1 = (thr T c k hc pa n t).1 + (s.1 - t.1) ∧ (thr T c k hc pa n s).2.1 = (thr T c k hc pa n t).2.1 ∧ (thr T c k hc pa n s).2.2.1 = (thr T c k hc pa n t).2.2.1
  | 0, s, t, h1, h2 => by simp only [thr]; omega
  | n + 1, s, t, h1, h2 => by
    simp only [thr, h2]
    split
    · omega
    · have o := one_dn (T := T) (c := c) (k := k) (hc := hc) (pa := pa) (a := s.1) (b := t.1) (w := s.2.1) (l := s.2.2.1) (d1 := s.2.2.2) (d2 := t.2.2.2)
      have es : (s.1, s.2.1, s.2.2.1, s.2.2.2) = s := rfl
      have et : (t.1, s.2.1, s.2.2.1, t.2.2.2) = t := by rw [h1, h2]
      rw [es, et] at o
      have ih := thr_dn (T := T) (c := c) (k := k) (hc := hc) (pa := pa) n (one T c k hc pa s) (one T c k hc pa t) o.2.1 o.2.2
      omega
/-- a stretch at a pace from wind and legs on: tenths, wind, legs -/
def th3 (T : TT) (c : CC) (hc : Int) (k : Nat) (pa w l : Int) : SS := thr T c k hc pa (T 108 k).toNat (0, w, l, 0)
theorem th3_rng {T : TT} (hk : TOK T) {c : CC} (hc : CR c) {k : Nat} (hl : k < nLa T) {h : Nat} (hh : h < nHo T) {pa : Int} (hp : 1 ≤ pa ∧ pa ≤ 9) {w l : Int} (hw : 0 ≤ w ∧ w ≤ 60) (hle : 0 ≤ l ∧ l ≤ 40) : (0 ≤ (th3 T c (T 117 h) k pa w l).1 ∧ (th3 T c (T 117 h) k pa w l).1 ≤ 1980) ∧ (0 ≤ (th3 T c (T 117 h) k pa w l).2.1 ∧ (th3 T c (T 117 h) k pa w l).2.1 ≤ 60) ∧ (0 ≤ (th3 T c (T 117 h) k pa w l).2.2.1 ∧ (th3 T c (T 117 h) k pa w l).2.2.1 ≤ 40) := by
  have h1 := thr_rng hk hc hl hh hp (T 108 k).toNat (0, w, l, 0) (by unfold SR; simp only; omega)
  have h2 := (hk.lane hl).1
  have key : ∀ (n : Nat) (s : SS), SR s → (thr T c k (T 117 h) pa n s).2.2.1 ≤ s.2.2.1 := by
    intro n
    induction n with
    | zero => intro s _; simp [thr]
    | succ n ih =>
      intro s hs
      unfold thr
      split
      · omega
      · have o := one_rng hk hc hl hh hp hs
        have := ih _ o.1
        omega
  have h3 := key (T 108 k).toNat (0, w, l, 0) (by unfold SR; simp only; omega)
  unfold SR at h1
  unfold th3
  simp only at h1 h3
  omega
theorem w_through {T : TT} {Q : QT} {ρ : RT} {f0 : IT} {g0 : JT} (hρ : Fx ρ) (hk : TOK T) {k h : Nat} (hkE : k < nLa T) (hh : h < nHo T) {c : CC} (hc : CR c) {pa w l : Int} (hp : 1 ≤ pa ∧ pa ≤ 9) {R : SS}
    (hQ : ∀ (f : IT) (g : JT) (b : Bool), KS f0 f → KG g0 g → (b = true ↔ R.2.2.1 ≠ 0) → (b = true → MS c R f) → Q (some (.int (iz (bz b)))) ρ f g)
    (i : Nat) (f : IT) (g : JT) (s : SS) (hT : MT T f) (hM : MS c s f) (hs : SR s) (hpos : s.2.2.1 ≠ 0) (hf : KS f0 f) (hg : KG g0 g) (hi : (i : Int) ≤ T 108 k) (hr : R = thr T c k (T 117 h) pa ((T 108 k).toNat - i) s) :
    V_X12_through Q 20 [.ref 104, .int (iz (k : Int)), .int (iz (h : Int)), .int (iz pa), .int (iz w), .int (iz l), .int (iz (i : Int))] [] ρ f g := by
  have h6 := hk.la
  have hlk := (hk.lane (k := k) (by omega)).1
  refine V_il6 dX12_through_20 ?_
  refine V_al0n dX12_through_22 ?_
  refine V_getR kk104 (by decide) fl_X12_23 (fx_104_31 hρ) dX12_through_23 ?_
  refine V_il1n dX12_through_26 ?_
  refine V_iald (k := k) kk108 (by decide) (by first | rfl | omega) (by omega) (by first | decide | assumption | omega) (hT.at rfl (by omega : k < 6)) dX12_through_27 ?_
  refine V_icmp_ge (tgt := 53) dX12_through_28 rfl (by first | assumption | (unfold ri at *; omega)) (by first | assumption | (unfold ri at *; omega)) (fun b28 => ?_) (fun b28 => ?_)
  · have hr1 : R = s := by rw [hr, show (T 108 k).toNat - i = 0 by omega]; rfl
    refine V_iconst dX12_through_53 ?_
    exact V_zreturn rfl (by first | exact Or.inl rfl | exact Or.inr rfl | (unfold bz; split <;> simp)) (hQ f g true hf hg (by rw [hr1]; simp [hpos]) (fun _ => by rw [hr1]; exact hM)) dX12_through_54
  · refine V_al0n dX12_through_31 ?_
    refine V_il1n dX12_through_32 ?_
    refine V_il2n dX12_through_33 ?_
    refine V_il3n dX12_through_34 ?_
    refine V_callV (as := [_, _, _]) ml_X12_470 im_X12_step se_X12_step kk104 (by decide) (by decide) dX12_through_35 rfl rfl (by decide) (by decide) (Nat.le_of_ble_eq_true rfl) (by decide) (by decide) rfl (c_step1 hρ hT hk (by omega) hh hM hc hs hp) ?_
    rintro r35 ρ35 f35 g35 ⟨rfl, s35_0, hM1, ks1, kg1⟩
    obtain rfl := s35_0.symm
    have hr1 := hr
    rw [show (T 108 k).toNat - i = ((T 108 k).toNat - (i + 1)) + 1 by omega, thr, if_neg hpos] at hr1
    have hs1 := (one_rng hk hc (by omega : k < nLa T) hh hp hs).1
    refine V_al0n dX12_through_38 ?_
    refine V_getI kk104 (by decide) fl_X12_420 hM1.2.2.2.2.2.2.2.1 dX12_through_39 ?_
    refine V_if_ne (tgt := 47) dX12_through_42 rfl (by unfold SR at hs1; unfold ri; omega) (fun b42 => ?_) (fun b42 => ?_)
    · refine V_inc6 dX12_through_47 (by decide) rfl ?_
      refine V_goto (tgt := 20) dX12_through_50 rfl ?_
      exact w_through hρ hk hkE hh hc hp hQ (i + 1) f35 g35 _ (ks1.mt hT) hM1 hs1 b42 (hf.tr ks1) (hg.tr kg1) (by omega) hr1
    · rw [thr_out b42] at hr1
      refine V_iconst dX12_through_45 ?_
      exact V_zreturn rfl (by first | exact Or.inl rfl | exact Or.inr rfl | (unfold bz; split <;> simp)) (hQ f35 g35 false (hf.tr ks1) (hg.tr kg1) (by rw [hr1]; simp [b42]) (fun h => by cases h)) dX12_through_46
termination_by (T 108 k).toNat - i
/-- the context of a search lies in the reference -/
def MC (c : CC) (f : IT) : Prop := f 104 72 = bz c.1 ∧ f 104 68 = bz c.2.1 ∧ f 104 71 = c.2.2.1 ∧ f 104 70 = c.2.2.2.1 ∧ f 104 73 = c.2.2.2.2
theorem KS.mc {c : CC} {f f' : IT} (h : KS f f') (hM : MC c f) : MC c f' := ⟨(h 104 72 (by omega)).trans hM.1, (h 104 68 (by omega)).trans hM.2.1, (h 104 71 (by omega)).trans hM.2.2.1, (h 104 70 (by omega)).trans hM.2.2.2.1, (h 104 73 (by omega)).trans hM.2.2.2.2⟩
theorem c_through {T : TT} {ρ : RT} {f : IT} {g : JT} (hρ : Fx ρ) (hT : MT T f) (hk : TOK T) {k h : Nat} (hkE : k < nLa T) (hh : h < nHo T) {c : CC} (hc : CR c) (hM : MC c f) {pa w l : Int} (hp : 1 ≤ pa ∧ pa ≤ 9) (hw : 0 ≤ w ∧ w ≤ 60) (hl : 0 ≤ l ∧ l ≤ 40) :
    C_X12_through [.ref 104, .int (iz (k : Int)), .int (iz (h : Int)), .int (iz pa), .int (iz w), .int (iz l)] ρ f g (fun r ρ' f' g' => ∃ b : Bool, r = some (.int (iz (bz b))) ∧ ρ' = ρ ∧ KS f f' ∧ KG g g' ∧ (b = true ↔ (th3 T c (T 117 h) k pa w l).2.2.1 ≠ 0) ∧ (b = true → f' 104 76 = (th3 T c (T 117 h) k pa w l).1 ∧ f' 104 74 = (th3 T c (T 117 h) k pa w l).2.1 ∧ f' 104 75 = (th3 T c (T 117 h) k pa w l).2.2.1)) := by
  obtain ⟨m1, m2, m3, m4, m5⟩ := hM
  have hlk := (hk.lane hkE).1
  have h6 := hk.la
  have ks : KS f (u2 (u2 (u2 f 104 74 w) 104 75 l) 104 76 0) := fun a k q => (u2_o (by omega)).trans ((u2_o (by omega)).trans (u2_o (by omega)))
  have hM1 : MS c (0, w, l, f 104 77) (u2 (u2 (u2 f 104 74 w) 104 75 l) 104 76 0) := ⟨(ks 104 72 (by omega)).trans m1, (ks 104 68 (by omega)).trans m2, (ks 104 71 (by omega)).trans m3, (ks 104 70 (by omega)).trans m4, (ks 104 73 (by omega)).trans m5, u2_s, u2_n (by omega) (u2_n (by omega) u2_s), u2_n (by omega) u2_s, u2_n (by omega) (u2_n (by omega) (u2_n (by omega) rfl))⟩
  have hd := thr_dn (T := T) (c := c) (k := k) (hc := T 117 h) (pa := pa) (T 108 k).toNat (0, w, l, f 104 77) (0, w, l, 0) rfl rfl
  refine Ct.ofV (by decide) rfl (Nat.le_of_ble_eq_true rfl) ?_
  by_cases e : l = 0
  · have ho : (th3 T c (T 117 h) k pa w l).2.2.1 = 0 := by unfold th3; rw [thr_out e]; exact e
    have hs0 : SR (0, w, l, f 104 77) := by unfold SR; simp only; omega
    have o := one_rng hk hc hkE hh hp hs0
    refine V_al0n dX12_through_0 ?_
    refine V_il4 dX12_through_1 ?_
    refine V_putI kk104 (by decide) fl_X12_417 rfl dX12_through_3 ?_
    refine V_al0n dX12_through_6 ?_
    refine V_il5 dX12_through_7 ?_
    refine V_putI kk104 (by decide) fl_X12_420 rfl dX12_through_9 ?_
    refine V_al0n dX12_through_12 ?_
    refine V_iconst dX12_through_13 ?_
    refine V_putI kk104 (by decide) fl_X12_441 rfl dX12_through_14 ?_
    refine V_iconst dX12_through_17 ?_
    refine V_is6 dX12_through_18 (by decide) rfl ?_
    refine V_il6 dX12_through_20 ?_
    refine V_al0n dX12_through_22 ?_
    refine V_getR kk104 (by decide) fl_X12_23 (fx_104_31 hρ) dX12_through_23 ?_
    refine V_il1n dX12_through_26 ?_
    refine V_iald (k := k) kk108 (by decide) (by first | rfl | omega) (by omega) (by first | decide | assumption | omega) ((ks.mt hT).at rfl (by omega : k < 6)) dX12_through_27 ?_
    refine V_icmp_ge (tgt := 53) dX12_through_28 rfl (by first | assumption | (unfold ri at *; omega)) (by first | assumption | (unfold ri at *; omega)) (fun b28 => ?_) (fun b28 => ?_)
    · exfalso; omega
    · refine V_al0n dX12_through_31 ?_
      refine V_il1n dX12_through_32 ?_
      refine V_il2n dX12_through_33 ?_
      refine V_il3n dX12_through_34 ?_
      refine V_callV (as := [_, _, _]) ml_X12_470 im_X12_step se_X12_step kk104 (by decide) (by decide) dX12_through_35 rfl rfl (by decide) (by decide) (Nat.le_of_ble_eq_true rfl) (by decide) (by decide) rfl (c_step1 hρ (ks.mt hT) hk hkE hh hM1 hc hs0 hp) ?_
      rintro r35 ρ35 f35 g35 ⟨rfl, s35_0, hM2, ks1, kg1⟩
      obtain rfl := s35_0.symm
      refine V_al0n dX12_through_38 ?_
      refine V_getI kk104 (by decide) fl_X12_420 hM2.2.2.2.2.2.2.2.1 dX12_through_39 ?_
      have o1 := o.1
      have o2 := o.2.1
      unfold SR at o1
      simp only at o2
      refine V_if_ne (tgt := 47) dX12_through_42 rfl (by first | assumption | (unfold ri at *; omega)) (fun b42 => ?_) (fun b42 => ?_)
      · exfalso; omega
      · refine V_iconst dX12_through_45 ?_
        exact V_zreturn rfl (by first | exact Or.inl rfl | exact Or.inr rfl | (unfold bz; split <;> simp)) ⟨false, rfl, rfl, ks.tr ks1, kg1, by simp [ho], fun h => by cases h⟩ dX12_through_46
  · skip
    refine V_al0n dX12_through_0 ?_
    refine V_il4 dX12_through_1 ?_
    refine V_putI kk104 (by decide) fl_X12_417 rfl dX12_through_3 ?_
    refine V_al0n dX12_through_6 ?_
    refine V_il5 dX12_through_7 ?_
    refine V_putI kk104 (by decide) fl_X12_420 rfl dX12_through_9 ?_
    refine V_al0n dX12_through_12 ?_
    refine V_iconst dX12_through_13 ?_
    refine V_putI kk104 (by decide) fl_X12_441 rfl dX12_through_14 ?_
    refine V_iconst dX12_through_17 ?_
    refine V_is6 dX12_through_18 (by decide) rfl ?_
    refine w_through hρ hk hkE hh hc hp (R := thr T c k (T 117 h) pa (T 108 k).toNat (0, w, l, f 104 77)) (fun f' g' b a1 a2 a3 a4 => ⟨b, rfl, rfl, ks.tr a1, a2, ?_, fun hb => ?_⟩) 0 _ g (0, w, l, f 104 77) (ks.mt hT) hM1 (by unfold SR; simp only; omega) e KS.rf KG.rf (by omega) rfl
    · rw [a3]; unfold th3; rw [hd.2.2]
    · obtain ⟨-, -, -, -, -, n6, n7, n8, -⟩ := a4 hb
      unfold th3
      simp only at hd
      exact ⟨by rw [n6]; omega, by rw [n7]; exact hd.2.1, by rw [n8]; exact hd.2.2⟩

