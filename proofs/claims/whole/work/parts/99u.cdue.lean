/-! what is due by the known notes of a man -/
def DU (A : Nat → Bool) (P S V : Nat → Int) (n : Nat) (od : Bool) (f : IT) : Prop :=
  (∀ p k : Nat, p < 5 → k < 6 → (f 78 (p * 6 + k) = -1 ∧ ∀ i, i < n → A i = true → P i = (p : Int) → S i = (k : Int) → False) ∨ ∃ i, i < n ∧ A i = true ∧ P i = (p : Int) ∧ S i = (k : Int) ∧ f 78 (p * 6 + k) = V i) ∧
  (∀ p : Nat, p < 5 → (f 79 p = -1 ∧ ∀ i, i < n → A i = true → P i = (p : Int) → False) ∨ ((∃ i, i < n ∧ A i = true ∧ P i = (p : Int) ∧ f 79 p = S i) ∧ ∀ i, i < n → A i = true → P i = (p : Int) → S i ≤ f 79 p)) ∧
  f 73 8 = bz od ∧
  (od = false → ∀ i, i < n → A i = true → ∀ p k : Nat, p < 5 → k < 6 → P i = (p : Int) → S i = (k : Int) → f 78 (p * 6 + k) = V i) ∧
  (od = true → ∃ i i', i < n ∧ i' < n ∧ A i = true ∧ A i' = true ∧ P i = P i' ∧ S i = S i' ∧ V i ≠ V i')
section CDUE
variable {A : Nat → Bool} {P S V : Nat → Int} {n : Nat} {od : Bool} {f : IT}
theorem DU.skip (h : DU A P S V n od f) (hA : A n = false) : DU A P S V (n + 1) od f := by
  obtain ⟨h1, h2, h3, h4, h5⟩ := h
  have ne : ∀ i, i < n + 1 → A i = true → i < n := fun i hi ha => by
    by_cases e : i = n
    · rw [e, hA] at ha; cases ha
    · omega
  refine ⟨fun p k hp hk => ?_, fun p hp => ?_, h3, fun ho i hi ha => h4 ho i (ne i hi ha) ha, fun ho => ?_⟩
  · rcases h1 p k hp hk with q | ⟨i, q1, q2⟩
    · exact Or.inl ⟨q.1, fun i hi ha => q.2 i (ne i hi ha) ha⟩
    · exact Or.inr ⟨i, by omega, q2⟩
  · rcases h2 p hp with q | ⟨⟨i, q1, q2⟩, q3⟩
    · exact Or.inl ⟨q.1, fun i hi ha => q.2 i (ne i hi ha) ha⟩
    · exact Or.inr ⟨⟨i, by omega, q2⟩, fun i hi ha => q3 i (ne i hi ha) ha⟩
  · obtain ⟨i, i', q1, q2, q3⟩ := h5 ho
    exact ⟨i, i', by omega, by omega, q3⟩
theorem expF_at {p k : Nat} {v : Int} (hk : k < 6) : (∀ p1 k1 : Nat, k1 < 6 → expF p k v f 78 (p1 * 6 + k1) = if p1 = p ∧ k1 = k then v else f 78 (p1 * 6 + k1)) ∧ (∀ p1, expF p k v f 79 p1 = if p1 = p then (if f 79 p < (k : Int) then (k : Int) else f 79 p) else f 79 p1) ∧ (expF p k v f 73 8 = if f 78 (p * 6 + k) ≠ -1 ∧ f 78 (p * 6 + k) ≠ v then 1 else f 73 8) ∧ ∀ a j, ¬ (a = 73 ∧ j = 8) → a ≠ 78 → a ≠ 79 → expF p k v f a j = f a j := by
  unfold expF
  refine ⟨fun p1 k1 h1 => ?_, fun p1 => ?_, ?_, fun a j q1 q2 q3 => ?_⟩
  · rw [u2_o (by omega)]
    by_cases e : p1 = p ∧ k1 = k
    · rw [e.1, e.2, u2_s, if_pos ⟨rfl, rfl⟩]
    · rw [u2_o (by omega), if_neg e]
      split
      · rw [u2_o (by omega)]
      · rfl
  · by_cases e : p1 = p
    · rw [e, u2_s, if_pos rfl]
    · rw [u2_o (by omega), u2_o (by omega), if_neg e]
      split
      · rw [u2_o (by omega)]
      · rfl
  · rw [u2_o (by omega), u2_o (by omega)]
    split
    · exact u2_s
    · rfl
  · rw [u2_o (by omega), u2_o (by omega)]
    split
    · rw [u2_o q1]
    · rfl
theorem DU.step (h : DU A P S V n od f) (hA : A n = true) {p k : Nat} (hp : p < 5) (hk : k < 6) (eP : P n = (p : Int)) (eS : S n = (k : Int)) (hV : ∀ i, i ≤ n → A i = true → 0 ≤ V i) : ∃ od', DU A P S V (n + 1) od' (expF p k (V n) f) := by
  obtain ⟨F78, F79, F8, -⟩ := expF_at (p := p) (k := k) (v := V n) (f := f) hk
  obtain ⟨h1, h2, h3, h4, h5⟩ := h
  have hvn := hV n (Nat.le_refl n) hA
  refine ⟨od || decide (f 78 (p * 6 + k) ≠ -1 ∧ f 78 (p * 6 + k) ≠ V n), fun p1 k1 hp1 hk1 => ?_, fun p1 hp1 => ?_, ?_, fun ho i hi ha p1 k1 hp1 hk1 e1 e2 => ?_, fun ho => ?_⟩
  · rw [F78 p1 k1 hk1]
    by_cases e : p1 = p ∧ k1 = k
    · rw [if_pos e]
      exact Or.inr ⟨n, by omega, hA, by rw [eP, e.1], by rw [eS, e.2], rfl⟩
    · rw [if_neg e]
      rcases h1 p1 k1 hp1 hk1 with q | ⟨i, q1, q2⟩
      · refine Or.inl ⟨q.1, fun i hi ha a1 a2 => ?_⟩
        by_cases ei : i = n
        · subst ei; omega
        · exact q.2 i (by omega) ha a1 a2
      · exact Or.inr ⟨i, by omega, q2⟩
  · rw [F79 p1]
    by_cases e : p1 = p
    · subst e
      rw [if_pos rfl]
      right
      by_cases c : f 79 p1 < (k : Int)
      · rw [if_pos c]
        refine ⟨⟨n, by omega, hA, eP, eS.symm⟩, fun i hi ha a1 => ?_⟩
        by_cases ei : i = n
        · subst ei; omega
        · rcases h2 p1 hp1 with q | ⟨-, q3⟩
          · exact absurd (q.2 i (by omega) ha a1) id
          · have := q3 i (by omega) ha a1; omega
      · rw [if_neg c]
        rcases h2 p1 hp1 with q | ⟨⟨i, q1, q2, q4, q5⟩, q3⟩
        · omega
        · refine ⟨⟨i, by omega, q2, q4, q5⟩, fun i' hi ha a1 => ?_⟩
          by_cases ei : i' = n
          · subst ei; omega
          · exact q3 i' (by omega) ha a1
    · rw [if_neg e]
      rcases h2 p1 hp1 with q | ⟨⟨i, q1, q2⟩, q3⟩
      · refine Or.inl ⟨q.1, fun i hi ha a1 => ?_⟩
        by_cases ei : i = n
        · subst ei; omega
        · exact q.2 i (by omega) ha a1
      · refine Or.inr ⟨⟨i, by omega, q2⟩, fun i' hi ha a1 => ?_⟩
        by_cases ei : i' = n
        · subst ei; omega
        · exact q3 i' (by omega) ha a1
  · rw [F8]
    by_cases c : f 78 (p * 6 + k) ≠ -1 ∧ f 78 (p * 6 + k) ≠ V n
    · rw [if_pos c, decide_eq_true c, Bool.or_true]; rfl
    · rw [if_neg c, decide_eq_false c, Bool.or_false]; exact h3
  · rw [Bool.or_eq_false_iff, decide_eq_false_iff_not] at ho
    obtain ⟨o1, o2⟩ := ho
    rw [F78 p1 k1 hk1]
    by_cases ei : i = n
    · subst ei
      rw [if_pos (by omega)]
    · have := h4 o1 i (by omega) ha p1 k1 hp1 hk1 e1 e2
      have hvi := hV i (by omega) ha
      by_cases e : p1 = p ∧ k1 = k
      · rw [if_pos e]
        rw [e.1, e.2] at this
        omega
      · rw [if_neg e]; exact this
  · rw [Bool.or_eq_true, decide_eq_true_eq] at ho
    rcases ho with o1 | o1
    · obtain ⟨i, i', q1, q2, q3⟩ := h5 o1
      exact ⟨i, i', by omega, by omega, q3⟩
    · rcases h1 p k hp hk with q | ⟨i, q1, q2, q3, q4, q5⟩
      · exact absurd q.1 o1.1
      · exact ⟨i, n, by omega, by omega, q2, hA, by omega, by omega, by omega⟩
theorem DU.ri {p k : Nat} (h : DU A P S V n od f) (hp : p < 5) (hk : k < 6) (hr : ∀ i, i < n → A i = true → (0 ≤ S i ∧ S i < 6) ∧ 0 ≤ V i ∧ V i ≤ 99999) : (-1 ≤ f 78 (p * 6 + k) ∧ f 78 (p * 6 + k) ≤ 99999) ∧ (-1 ≤ f 79 p ∧ f 79 p ≤ 5) := by
  constructor
  · rcases h.1 p k hp hk with q | ⟨i, q1, q2, q3, q4, q5⟩
    · omega
    · have := hr i q1 q2; omega
  · rcases h.2.1 p hp with q | ⟨⟨i, q1, q2, q3, q4⟩, -⟩
    · omega
    · have := hr i q1 q2; omega
end CDUE
section CGATH
variable {T : TT} {b : Nat} {ρ : RT} {g : JT} {φ : IT}
/-- which notes count for a man -/
def ntA (φ : IT) (m : Nat) (i : Nat) : Bool := cRun (φ 142) (kB φ) (fun _ => true) i && decide (φ 142 (4 * i) = (m : Int))
abbrev ntP (φ : IT) (i : Nat) : Int := φ 142 (4 * i + 1)
abbrev ntS (φ : IT) (i : Nat) : Int := φ 142 (4 * i + 2)
abbrev ntV (φ : IT) (i : Nat) : Int := φ 142 (4 * i + 3)
theorem nt_rng (hN : NTK T φ) {m : Nat} {i : Nat} (hi : i < kB φ) (ha : ntA φ m i = true) : (0 ≤ ntP φ i ∧ ntP φ i < (nPl T : Int)) ∧ (0 ≤ ntS φ i ∧ ntS φ i < (nLa T : Int)) ∧ (0 ≤ ntV φ i ∧ ntV φ i ≤ 99999) := by
  have hK := kB_rng hN
  unfold ntA at ha
  simp only [Bool.and_eq_true, decide_eq_true_eq] at ha
  rcases hN.2.2 i (by omega) with q | q
  · omega
  · exact q.2
def KGa (f f' : IT) : Prop := ∀ a k, ¬ (a = 73 ∧ k = 8) → a ≠ 78 → a ≠ 79 → f' a k = f a k
theorem w_gath7 {Q : QT} {f0 : IT} (hρ : Fx ρ) {m : Int} (hX : ∀ f : IT, (∀ a k, a ≠ 78 → f a k = f0 a k) → (∀ j, j < 30 → f 78 j = -1) → V_X5_gather Q 26 [.ref 73, .int (iz m), .null] [] ρ f g) (i : Nat) (hi : i ≤ 30) (f : IT) (hf : ∀ a k, a ≠ 78 → f a k = f0 a k) (hz : ∀ j, j < i → f 78 j = -1) :
    V_X5_gather Q 7 [.ref 73, .int (iz m), .int (iz (i : Int))] [] ρ f g := by
  refine V_il2n dX5_gather_7 ?_
  refine V_bipush dX5_gather_8 rfl ?_
  refine V_icmp_ge (tgt := 26) dX5_gather_10 rfl (by unfold ri; omega) (by unfold ri; omega) (fun b10 => ?_) (fun b10 => ?_)
  · exact V_weak (by repeat (first | exact wk_n | refine wk_c (Or.inr rfl) ?_ | refine wk_c (Or.inl rfl) ?_)) (hX f hf (fun j hj => hz j (by omega)))
  · refine V_al0n dX5_gather_13 ?_
    refine V_getR kk73 (by decide) fl_X5_32 (fx_73_6 hρ) dX5_gather_14 ?_
    refine V_il2n dX5_gather_17 ?_
    refine V_iconst dX5_gather_18 ?_
    refine V_iast (k := i) kk78 (by decide) (by first | rfl | omega) (by omega) (by first | decide | assumption | omega) dX5_gather_19 ?_
    refine V_inc2 dX5_gather_20 (by decide) rfl ?_
    refine V_goto (tgt := 7) dX5_gather_23 rfl ?_
    exact w_gath7 hρ hX (i + 1) (by omega) _ (fun a k ha => (u2_o (by omega)).trans (hf a k ha)) (fun j hj => by by_cases e : j = i; (rw [e]; exact u2_s); exact u2_n (by omega) (hz j (by omega)))
termination_by 30 - i
theorem w_gath28 {Q : QT} {f0 : IT} (hρ : Fx ρ) {m : Int} (hX : ∀ f : IT, (∀ a k, a ≠ 79 → f a k = f0 a k) → (∀ j, j < 5 → f 79 j = -1) → V_X5_gather Q 46 [.ref 73, .int (iz m), .null] [] ρ f g) (i : Nat) (hi : i ≤ 5) (f : IT) (hf : ∀ a k, a ≠ 79 → f a k = f0 a k) (hz : ∀ j, j < i → f 79 j = -1) :
    V_X5_gather Q 28 [.ref 73, .int (iz m), .int (iz (i : Int))] [] ρ f g := by
  refine V_il2n dX5_gather_28 ?_
  refine V_iconst dX5_gather_29 ?_
  refine V_icmp_ge (tgt := 46) dX5_gather_30 rfl (by unfold ri; omega) (by unfold ri; omega) (fun b30 => ?_) (fun b30 => ?_)
  · exact V_weak (by repeat (first | exact wk_n | refine wk_c (Or.inr rfl) ?_ | refine wk_c (Or.inl rfl) ?_)) (hX f hf (fun j hj => hz j (by omega)))
  · refine V_al0n dX5_gather_33 ?_
    refine V_getR kk73 (by decide) fl_X5_35 (fx_73_7 hρ) dX5_gather_34 ?_
    refine V_il2n dX5_gather_37 ?_
    refine V_iconst dX5_gather_38 ?_
    refine V_iast (k := i) kk79 (by decide) (by first | rfl | omega) (by omega) (by first | decide | assumption | omega) dX5_gather_39 ?_
    refine V_inc2 dX5_gather_40 (by decide) rfl ?_
    refine V_goto (tgt := 28) dX5_gather_43 rfl ?_
    exact w_gath28 hρ hX (i + 1) (by omega) _ (fun a k ha => (u2_o (by omega)).trans (hf a k ha)) (fun j hj => by by_cases e : j = i; (rw [e]; exact u2_s); exact u2_n (by omega) (hz j (by omega)))
termination_by 5 - i
theorem w_gath48 {Q : QT} {f0 : IT} (hρ : Fx ρ) (hk : TOK T) (hS : NSm T f0 φ) (h77 : ∀ j, j < 24 → f0 77 j = bz (!(cRun (φ 142) (kB φ) (fun _ => true) j))) {m : Nat} (hm : m < nMe T)
    (hX : ∀ (f : IT) (od : Bool), KGa f0 f → DU (ntA φ m) (ntP φ) (ntS φ) (ntV φ) (kB φ) od f → Q none ρ f g)
    (i : Nat) (hi : i ≤ kB φ) (f : IT) (od : Bool) (hf : KGa f0 f) (hD : DU (ntA φ m) (ntP φ) (ntS φ) (ntV φ) i od f) :
    V_X5_gather Q 48 [.ref 73, .int (iz (m : Int)), .int (iz (i : Int))] [] ρ f g := by
  have hN := hS.1
  have hK := kB_rng hN
  have h5 := hk.me
  have h5p := hk.pl
  have h6 := hk.la
  have hS1 : NSm T f φ := hS.cg (hf 73 4 (by omega) (by omega) (by omega)) (hf 73 5 (by omega) (by omega) (by omega)) (fun a k z => hf a k (by omega) (by omega) (by omega))
  by_cases e : i = kB φ
  · subst e
    refine V_il2n dX5_gather_48 ?_
    refine V_al0n dX5_gather_49 ?_
    refine V_callV (as := []) ml_X5_80 im_X5_knownSize se_X5_knownSize kk73 (by decide) (by decide) dX5_gather_50 rfl rfl (by decide) (by decide) (Nat.le_of_ble_eq_true rfl) (by decide) (by decide) rfl (c_knownSize hρ hS1) ?_
    refine pq4 ?_
    refine V_icmp_ge (tgt := 97) dX5_gather_53 rfl (by unfold ri; omega) (by unfold ri; omega) (fun b53 => ?_) (fun b53 => ?_)
    · exact V_return rfl (hX f od hf hD) dX5_gather_97
    · exfalso; omega
  · obtain ⟨m1, m2, m3⟩ := hS1.2.2.2 i (by omega)
    have hn := hN.2.2 i (by omega)
    have e77 : f 77 i = bz (!(cRun (φ 142) (kB φ) (fun _ => true) i)) := (hf 77 i (by omega) (by omega) (by omega)).trans (h77 i (by omega))
    have hrg : ntA φ m i = true → ∃ p k : Nat, p < 5 ∧ k < 6 ∧ ntP φ i = (p : Int) ∧ ntS φ i = (k : Int) ∧ 0 ≤ ntV φ i ∧ ntV φ i ≤ 99999 := fun ha => by
      have := nt_rng hN (by omega : i < kB φ) ha
      exact ⟨(ntP φ i).toNat, (ntS φ i).toNat, by omega, by omega, by omega, by omega, this.2.2⟩
    have hrs : ∀ j, j < i → ntA φ m j = true → (0 ≤ ntS φ j ∧ ntS φ j < 6) ∧ 0 ≤ ntV φ j ∧ ntV φ j ≤ 99999 := fun j hj ha => by
      have := nt_rng hN (by omega : j < kB φ) ha
      exact ⟨by omega, this.2.2⟩
    have go : ∀ Q' : QT, (∀ (f' : IT) (od' : Bool), KGa f0 f' → DU (ntA φ m) (ntP φ) (ntS φ) (ntV φ) (i + 1) od' f' → V_X5_gather Q 48 [.ref 73, .int (iz (m : Int)), .int (iz ((i : Int) + 1))] [] ρ f' g) := fun _ f' od' a1 a2 => w_gath48 hρ hk hS h77 hm hX (i + 1) (by omega) f' od' a1 a2
    have go := go Q
    refine V_il2n dX5_gather_48 ?_
    refine V_al0n dX5_gather_49 ?_
    refine V_callV (as := []) ml_X5_80 im_X5_knownSize se_X5_knownSize kk73 (by decide) (by decide) dX5_gather_50 rfl rfl (by decide) (by decide) (Nat.le_of_ble_eq_true rfl) (by decide) (by decide) rfl (c_knownSize hρ hS1) ?_
    refine pq4 ?_
    refine V_icmp_ge (tgt := 97) dX5_gather_53 rfl (by unfold ri; omega) (by unfold ri; omega) (fun b53 => ?_) (fun b53 => ?_)
    · exfalso; omega
    · refine V_al0n dX5_gather_56 ?_
      refine V_getR kk73 (by decide) fl_X5_11 (fx_73_0 hρ) dX5_gather_57 ?_
      refine V_il2n dX5_gather_60 ?_
      refine V_iald (k := i) kk74 (by decide) (by first | rfl | omega) (by omega) (by first | decide | assumption | omega) m1 dX5_gather_61 ?_
      refine V_il1n dX5_gather_62 ?_
      refine V_icmp_ne (tgt := 91) dX5_gather_63 rfl (by unfold ri; omega) (by unfold ri; omega) (fun b63 => ?_) (fun b63 => ?_)
      · refine V_inc2 dX5_gather_91 (by decide) rfl ?_
        refine V_goto (tgt := 48) dX5_gather_94 rfl ?_
        have hA : ntA φ m i = false := by unfold ntA; rw [decide_eq_false (show ¬ φ 142 (4 * i) = (m : Int) by omega), Bool.and_false]
        exact go f od hf (hD.skip hA)
      · refine V_al0n dX5_gather_66 ?_
        refine V_getR kk73 (by decide) fl_X5_21 (fx_73_3 hρ) dX5_gather_67 ?_
        refine V_il2n dX5_gather_70 ?_
        refine V_zald (k := i) kk77 (by decide) (by first | rfl | omega) (by omega) (by first | decide | assumption | omega) e77 dX5_gather_71 ?_
        refine V_bf (tgt := 91) dX5_gather_72 rfl (fun b72 => ?_) (fun b72 => ?_)
        · refine V_inc2 dX5_gather_91 (by decide) rfl ?_
          refine V_goto (tgt := 48) dX5_gather_94 rfl ?_
          have hA : ntA φ m i = false := by unfold ntA; simp at b72; rw [b72]; rfl
          exact go f od hf (hD.skip hA)
        · have hA : ntA φ m i = true := by unfold ntA; simp at b72; rw [b72]; simp; omega
          obtain ⟨p, k, p1, p2, p3, p4, p5⟩ := hrg hA
          have hr := DU.ri hD p1 p2 hrs
          have hex := c_expect (g := g) (f := f) hρ p1 p2 (v := ntV φ i) (by unfold ri; omega) (by unfold ri; omega) (by unfold ri; omega)
          have ec : φ 142 (4 * i + 1) * 6 + φ 142 (4 * i + 2) = (p : Int) * 6 + (k : Int) := by rw [← p3, ← p4]
          rw [← ec] at hex
          obtain ⟨od', hD2⟩ := hD.step hA p1 p2 p3 p4 (fun j hj ha => (nt_rng hN (by omega : j < kB φ) ha).2.2.1)
          refine V_al0n dX5_gather_75 ?_
          refine V_al0n dX5_gather_76 ?_
          refine V_getR kk73 (by decide) fl_X5_15 (fx_73_1 hρ) dX5_gather_77 ?_
          refine V_il2n dX5_gather_80 ?_
          refine V_iald (k := i) kk75 (by decide) (by first | rfl | omega) (by omega) (by first | decide | assumption | omega) m2 dX5_gather_81 ?_
          refine V_al0n dX5_gather_82 ?_
          refine V_getR kk73 (by decide) fl_X5_18 (fx_73_2 hρ) dX5_gather_83 ?_
          refine V_il2n dX5_gather_86 ?_
          refine V_iald (k := i) kk76 (by decide) (by first | rfl | omega) (by omega) (by first | decide | assumption | omega) m3 dX5_gather_87 ?_
          refine V_callV (as := [_, _]) ml_X5_84 im_X5_expect se_X5_expect kk73 (by decide) (by decide) dX5_gather_88 rfl rfl (by decide) (by decide) (Nat.le_of_ble_eq_true rfl) (by decide) (by decide) rfl (hex) ?_
          refine pq4 ?_
          refine V_inc2 dX5_gather_91 (by decide) rfl ?_
          refine V_goto (tgt := 48) dX5_gather_94 rfl ?_
          exact go _ od' (fun a j z1 z2 z3 => ((expF_at p2).2.2.2 a j z1 z2 z3).trans (hf a j z1 z2 z3)) hD2
termination_by kB φ - i
theorem c_gather {f : IT} (hρ : Fx ρ) (hk : TOK T) (hS : NSm T f φ) (h77 : ∀ j, j < 24 → f 77 j = bz (!(cRun (φ 142) (kB φ) (fun _ => true) j))) {m : Nat} (hm : m < nMe T) : C_X5_gather [.ref 73, .int (iz (m : Int))] ρ f g (fun r ρ' f' g' => r = none ∧ ρ' = ρ ∧ KGa f f' ∧ (∃ od, DU (ntA φ m) (ntP φ) (ntS φ) (ntV φ) (kB φ) od f') ∧ g' = g) := by
  have h26 : ∀ f1 : IT, KGa f f1 → f1 73 8 = 0 → (∀ j, j < 30 → f1 78 j = -1) → V_X5_gather (fun r ρ' f' g' => r = none ∧ ρ' = ρ ∧ KGa f f' ∧ (∃ od, DU (ntA φ m) (ntP φ) (ntS φ) (ntV φ) (kB φ) od f') ∧ g' = g) 26 [.ref 73, .int (iz (m : Int)), .null] [] ρ f1 g := by
    intro f1 hf h8 hz
    have h46 : ∀ f2 : IT, (∀ a k, a ≠ 79 → f2 a k = f1 a k) → (∀ j, j < 5 → f2 79 j = -1) → V_X5_gather (fun r ρ' f' g' => r = none ∧ ρ' = ρ ∧ KGa f f' ∧ (∃ od, DU (ntA φ m) (ntP φ) (ntS φ) (ntV φ) (kB φ) od f') ∧ g' = g) 46 [.ref 73, .int (iz (m : Int)), .null] [] ρ f2 g := by
      intro f2 hf2 hz2
      refine V_iconst dX5_gather_46 ?_
      refine V_is2n dX5_gather_47 (by decide) rfl ?_
      exact w_gath48 hρ hk hS h77 hm (fun f' od a1 a2 => ⟨rfl, rfl, a1, ⟨od, a2⟩, rfl⟩) 0 (by omega) f2 false (fun a k z1 z2 z3 => (hf2 a k z3).trans (hf a k z1 z2 z3)) ⟨fun p k hp hk => Or.inl ⟨(hf2 78 _ (by omega)).trans (hz _ (by omega)), fun i hi => by omega⟩, fun p hp => Or.inl ⟨hz2 p hp, fun i hi => by omega⟩, (hf2 73 8 (by omega)).trans h8, fun _ i hi => by omega, fun z => by cases z⟩
    refine V_iconst dX5_gather_26 ?_
    refine V_is2n dX5_gather_27 (by decide) rfl ?_
    exact w_gath28 hρ h46 0 (by omega) f1 (fun _ _ _ => rfl) (fun j hj => by omega)
  refine Ct.ofV (by decide) rfl (Nat.le_of_ble_eq_true rfl) ?_
  refine V_al0n dX5_gather_0 ?_
  refine V_iconst dX5_gather_1 ?_
  refine V_putZ kk73 (by decide) fl_X5_38 rfl (by first | exact Or.inl rfl | exact Or.inr rfl | (unfold bz; split <;> simp)) dX5_gather_2 ?_
  refine V_iconst dX5_gather_5 ?_
  refine V_is2n dX5_gather_6 (by decide) rfl ?_
  refine w_gath7 (f0 := u2 f 73 8 0) hρ (fun f1 a1 a2 => ?_) 0 (by omega) _ (fun _ _ _ => rfl) (fun j hj => by omega)
  exact h26 f1 (fun a k z1 z2 z3 => (a1 a k z2).trans (u2_o z1)) ((a1 73 8 (by omega)).trans u2_s) a2
end CGATH

