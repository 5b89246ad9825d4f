/-! each call, in one form: the class, then the reference -/
theorem mx_mx {x y φ : IT} : mx (mx x y) φ = mx x φ := by
  funext a
  by_cases z : 104 ≤ a ∧ a ≤ 147
  · rw [mx_r z, mx_r z]
  · rw [mx_n z, mx_n z, mx_n z]
section PAIRS
variable {T : TT} {b : Nat} {ρ ρ1 : RT} {f f1 : IT} {g g1 : JT}
def CP (φ' : IT) (γ' : JT) (f : IT) (g : JT) (ρ' : RT) (f' : IT) (g' : JT) : Prop := (∃ (T : TT) (b : Nat), ICl T b ρ' f' g' φ' γ' ∧ IRf T φ') ∧ f' 55 5 ≤ f 55 5 + 61 ∧ (∀ a k, 104 ≤ a → f' a k = f a k) ∧ (∀ a k, 104 ≤ a → g' a k = g a k)
def RP (φ' : IT) (γ' : JT) (f1 : IT) (g1 : JT) (f' : IT) (g' : JT) : Prop := (∀ a k, ¬ (104 ≤ a ∧ a ≤ 147) → f' a k = f1 a k) ∧ (∀ a k, 104 ≤ a → a ≤ 147 → scM a k = false → f' a k = φ' a k) ∧ (∀ a k, ¬ (104 ≤ a ∧ a ≤ 147) → g' a k = g1 a k) ∧ (∀ a k, 104 ≤ a → a ≤ 147 → scM a k = false → g' a k = γ' a k)
theorem scM_out {a k : Nat} (h : ¬ (104 ≤ a ∧ a ≤ 147)) : scM a k = false := by
  unfold scM
  simp
  omega
theorem RP.km {φ' F f' : IT} {γ' G g' : JT} (e : F = mx f1 φ') (eg : G = mx g1 γ') (k : KM F f') (kg : KM G g') : RP φ' γ' f1 g1 f' g' := by
  subst e eg
  exact ⟨fun a k' z => (k a k' (scM_out z)).trans (by rw [mx_n z]), fun a k' z1 z2 z3 => (k a k' z3).trans (by rw [mx_r ⟨z1, z2⟩]), fun a k' z => (kg a k' (scM_out z)).trans (by rw [mx_n z]), fun a k' z1 z2 z3 => (kg a k' z3).trans (by rw [mx_r ⟨z1, z2⟩])⟩
/-- one call of each: the next round begins where this one did -/
theorem CP.glue {φ' f2 : IT} {γ' g2 : JT} (h : CP φ' γ' f g ρ1 f1 g1) (r : RP φ' γ' f1 g1 f2 g2) : (∃ (T : TT) (b : Nat), ICl T b ρ1 f2 g2 f2 g2 ∧ IRf T f2) ∧ f2 55 5 ≤ f 55 5 + 61 ∧ (∀ k, f2 1005 k = f 1005 k) ∧ (∀ k, g2 1005 k = g 1005 k) := by
  obtain ⟨⟨T, b, h1, h2⟩, h3, h4, h5⟩ := h
  obtain ⟨r1, r2, r3, r4⟩ := r
  refine ⟨⟨T, b, h1.mv (fun a k z => r1 a k (by omega)) (fun a k z => r3 a k (by omega)) r2 r4, h2.mv (fun a k z1 z2 z3 z4 => r2 a k z1 (by omega) ?_)⟩, ?_, fun k => ?_, fun k => ?_⟩
  · unfold scM
    simp
    omega
  · rw [r1 55 5 (by omega)]; exact h3
  · rw [r1 _ _ (by omega)]; exact h4 _ _ (by omega)
  · rw [r3 _ _ (by omega)]; exact h5 _ _ (by omega)
theorem CP.qw {n : Int} {f' : IT} {g' : JT} (h : ICl T b ρ f g f g) (hX : IRf T f) (hn : n ≤ 61) (q : QW T b n f g f' g') : CP f g f g ρ f' g' := by
  have hb := h.1.2.1
  exact ⟨⟨T, b, h.qw q, hX⟩, by have := q.2.2.2; omega, fun a k z => q.2.1.1 a k (by omega) (by omega), fun a k z => by rw [q.2.1.2 a (by omega) (by omega) (by omega) (by omega)]⟩
theorem CP.qs {n : Int} {ρ' : RT} {f' : IT} {g' : JT} (h : ICl T b ρ f g f g) (hX : IRf T f) (hn : n ≤ 61) (q : QS T b n ρ f g ρ' f' g') : CP f g f g ρ' f' g' := by
  have hb := h.1.2.1
  have q0 := h.qs q
  obtain ⟨-, -, -, -, ag, -, e, eg⟩ := q
  exact ⟨⟨T, b, q0, hX⟩, by have := ag.2; omega, fun a k z => e a k (by omega) (by omega) (by omega) (by omega) (by omega), fun a k z => by rw [eg a (by omega) (by omega) (by omega) (by omega) (by omega) (by omega)]⟩
theorem CP.qc {n : Int} {f' : IT} {g' : JT} (h : ICl T b ρ f g f g) (hX : IRf T f) (hn : n ≤ 61) (q : QC T b n f g f' g') : CP f g f g ρ f' g' := by
  have hb := h.1.2.1
  have q0 := h.qc q
  obtain ⟨-, -, ag, e, eg⟩ := q
  exact ⟨⟨T, b, q0, hX⟩, by have := ag.2; omega, fun a k z => e a k (by omega) (by omega), fun a k z => by rw [eg a (by omega) (by omega)]⟩
theorem CP.qf {n : Int} {f' : IT} {g' : JT} (h : ICl T b ρ f g f g) (hX : IRf T f) (hn : n ≤ 61) (q : QF T b n f f g f' g') : CP f g f g ρ f' g' := by
  have hb := h.1.2.1
  have q0 := h.qf q
  obtain ⟨-, -, -, ag, e, eg⟩ := q
  exact ⟨⟨T, b, q0, hX⟩, by have := ag.2; omega, fun a k z => e a k (by omega) (by omega) (by omega) (by omega), fun a k z => by rw [eg a (by omega) (by omega) (by omega)]⟩
theorem CP.id (h : ICl T b ρ f g f g) (hX : IRf T f) : CP f g f g ρ f g := ⟨⟨T, b, h, hX⟩, by omega, fun _ _ _ => rfl, fun _ _ _ => rfl⟩
theorem CP.rk {φ' f' : IT} {γ' g' : JT} (h : ICl T b ρ f g f g) (hX : IRf T f) (q : RSm T ρ f' g' φ' γ') (e : RK f f') (eg : RG g g') (p : ∀ a k, ¬ (a = 104 ∧ 65 ≤ k) → a ≠ 137 → a ≠ 138 → a ≠ 147 → φ' a k = f a k) (p9 : φ' 104 90 = f 104 90 ∧ φ' 104 91 = f 104 91) : CP φ' γ' f g ρ f' g' :=
  ⟨⟨T, b, h.rk q e eg p p9, hX.mv (fun a k z1 z2 z3 z4 => p a k z2 (by omega) (by omega) (by omega))⟩, by rw [e 55 5 (by unfold rcC; omega)]; omega, fun a k z => e a k (by unfold rcC; omega), fun a k z => by rw [eg a (by omega) (by omega)]⟩
theorem CP.nk {φ' f' : IT} (h : ICl T b ρ f g f g) (hX : IRf T f) (q : NSm T f' φ') (e : NK f f') (hn : NFg f f') (p : ∀ a k, ¬ (a = 104 ∧ (k = 90 ∨ k = 91)) → a ≠ 142 → φ' a k = f a k) (hs : f' = f → φ' = f) : CP φ' g f g ρ f' g :=
  ⟨⟨T, b, h.nk q e hn p hs, hX.mv (fun a k z1 z2 z3 z4 => p a k (by omega) (by omega))⟩, by rw [e 55 5 (by omega) (by omega)]; omega, fun a k z => e a k (by omega) (by omega), fun _ _ _ => rfl⟩
theorem bz_raF (h : f 104 68 = 0 ∨ f 104 68 = 1) : f 104 68 = bz (raF f) := by
  unfold raF bz
  rcases h with e | e <;> rw [e] <;> rfl
theorem ICl.ra {φ : IT} {γ : JT} (h : ICl T b ρ f g φ γ) : f 0 6 = bz (raF φ) ∧ φ 104 68 = bz (raF φ) := by
  have q := h.2.2.2.2.2.2.2.2.1.2.2.2.2.2.2.2
  exact ⟨q.1.trans (bz_raF q.2), bz_raF q.2⟩
theorem ICl.sk {φ : IT} {γ : JT} (h : ICl T b ρ f g φ γ) : f 0 5 = φ 104 67 ∧ (0 ≤ φ 104 67 ∧ φ 104 67 ≤ 30) := h.2.2.2.2.2.2.2.2.1.2.2.2.2.2.2.1
theorem ICl.rc {φ : IT} {γ : JT} (h : ICl T b ρ f g φ γ) : RcK T φ := ⟨h.2.2.2.2.2.2.2.2.1.1.2.2.1, fun z => (h.2.2.2.2.2.2.2.2.1.1.2.2.2.2 z).1⟩
/-- the reference's cells as the class left them: as they were -/
def HI (f : IT) (g : JT) (f1 : IT) (g1 : JT) : Prop := (∀ a k, 104 ≤ a → f1 a k = f a k) ∧ (∀ a k, 104 ≤ a → g1 a k = g a k)
theorem HI.e (h : HI f g f1 g1) : f1 = mx f1 f := mx_e (fun a k z _ => h.1 a k z)
theorem HI.eg (h : HI f g f1 g1) : g1 = mx g1 g := mx_e (fun a k z _ => h.2 a k z)
theorem HI.mt (h : HI f g f1 g1) (hT : MT T f) : MT T f1 := fun a k ht => (h.1 a k (tx_sc ht).2.1).trans (hT a k ht)
theorem HI.rc (h : HI f g f1 g1) (hR : RcK T f) : RcK T f1 := by
  unfold RcK RWf at *
  rw [h.1 104 78 (by omega), h.1 104 79 (by omega), h.1 104 80 (by omega), h.1 137 0 (by omega), h.1 137 2 (by omega), h.1 137 3 (by omega), h.1 137 5 (by omega), h.1 137 6 (by omega)]
  exact hR
/-! what the reference's calls leave alone -/
theorem cpR_o2 {a c o i q k : Nat} (h : q ≠ a) : cpR f a c o i q k = f q k := by unfold cpR; rw [if_neg (by omega)]
theorem raceF_o {m p : Int} {a k : Nat} (h : ¬ (a = 104 ∧ (78 ≤ k ∧ k ≤ 82))) (h2 : a ≠ 137) : raceF T m p f a k = f a k := by
  unfold raceF
  split
  · rw [u2_o (by omega), u2_o (by omega), u2_o (by omega), u2_o (by omega), u2_o (by omega), u2_o (by omega), u2_o (by omega), u2_o (by omega), u2_o (by omega), u2_o (by omega), u2_o (by omega)]
  · rfl
theorem pcdF_o {n : Int} {a k : Nat} (h2 : a ≠ 137) : pcdF T n f a k = f a k := by
  unfold pcdF
  split
  · rw [u2_o (by omega)]
  · rfl
theorem shfF_o {n : Int} {a k : Nat} (h2 : a ≠ 137) : shfF T n f a k = f a k := by
  unfold shfF
  split
  · rw [u2_o (by omega), u2_o (by omega)]
  · rfl
theorem undF_o {a k : Nat} (h : ¬ (a = 104 ∧ k = 82)) (h2 : a ≠ 137) : undF f a k = f a k := by
  unfold undF
  split
  · rfl
  · rw [cpR_o2 h2, u2_o (by omega)]
theorem keepF_o {a k : Nat} (h : ¬ (a = 104 ∧ 97 ≤ k)) (h2 : a ≠ 147) : keepF f a k = f a k := by
  unfold keepF
  rw [u2_o (by omega), u2_o (by omega), cpR_o2 h2, u2_o (by omega), u2_o (by omega), u2_o (by omega), u2_o (by omega)]
theorem backF_o {a k : Nat} (h : ¬ (a = 104 ∧ (k = 67 ∨ k = 68 ∨ 78 ≤ k ∧ k ≤ 82))) (h2 : a ≠ 137) : backF f a k = f a k := by
  unfold backF
  split
  · rw [u2_o (by omega), u2_o (by omega), u2_o (by omega), cpR_o2 h2, u2_o (by omega), u2_o (by omega), u2_o (by omega)]
  · rfl
theorem sackF_o {n : Int} {a k : Nat} (h : ¬ (a = 104 ∧ k = 67)) : sackF n f a k = f a k := by
  unfold sackF
  split
  · rw [u2_o (by omega)]
  · rfl
theorem remF_o2 {x : Int} {a k : Nat} (h : ¬ (a = 104 ∧ k = 82)) (h2 : a ≠ 138) : remF x f a k = f a k := by
  unfold remF
  split
  · rw [u2_o (by omega), u2_o (by omega)]; unfold cpU; rw [if_neg (by omega), u2_o (by omega)]; unfold shU; rw [if_neg (by omega)]
  · rw [u2_o (by omega), u2_o (by omega)]; unfold cpU; rw [if_neg (by omega)]
theorem stF_o {a k : Nat} (h : ¬ (a = 104 ∧ k = 82)) (h2 : a ≠ 138) (h3 : a ≠ 137) : stF T f g a k = f a k := by
  unfold stF
  rw [u2_o (by omega), u2_o (by omega), u2_o (by omega), u2_o (by omega)]
  split
  · rw [u2_o (by omega), remF_o2 h h2]
  · rw [remF_o2 h h2]
theorem goN_o {a k : Nat} (h : ¬ (a = 104 ∧ k = 82)) (h2 : a ≠ 138) (h3 : a ≠ 137) : ∀ (n : Nat) (f : IT) (g : JT), (goN T n f g).2.1 a k = f a k
  | 0, f, g => rfl
  | n + 1, f, g => by
    rw [goN]
    split
    · show (goN T n (stF T f g) (stG g)).2.1 a k = _
      rw [goN_o h h2 h3 n, stF_o h h2 h3]
    · rfl
theorem goF_o {n : Int} {a k : Nat} (h : ¬ (a = 104 ∧ k = 82)) (h2 : a ≠ 138) (h3 : a ≠ 137) : goF T n f g a k = f a k := by
  unfold goF
  split
  · exact goN_o h h2 h3 _ _ _
  · rfl
theorem ntdF_o {m p k' x : Int} {a k : Nat} (h : ¬ (a = 104 ∧ k = 90)) (h2 : a ≠ 142) : ntdF m p k' x f a k = f a k := by
  unfold ntdF
  rw [u2_o (by omega), u2_o (by omega), u2_o (by omega), u2_o (by omega), u2_o (by omega)]
theorem notF_o {m p k' x : Int} {a k : Nat} (h : ¬ (a = 104 ∧ k = 90)) (h2 : a ≠ 142) : notF T m p k' x f a k = f a k := by
  unfold notF
  split
  · exact ntdF_o h h2
  · rfl
theorem strF_o {n : Int} {a k : Nat} (h : ¬ (a = 104 ∧ k = 90)) (h2 : a ≠ 142) : strF n f a k = f a k := by
  unfold strF
  split
  · exact ntdF_o h h2
  · rfl
theorem knoF_o {n : Int} {a k : Nat} (h : ¬ (a = 104 ∧ k = 91)) : knoF n f a k = f a k := by
  unfold knoF
  split
  · rw [u2_o (by omega)]
  · rfl
theorem fdF_o {p q r s t : Int} {a k : Nat} (h : ¬ (a = 104 ∧ (k = 1 ∨ k = 2))) (h2 : a ≠ 105) : fdF p q r s t f a k = f a k := by
  unfold fdF
  split
  · rw [u2_o (by omega)]; unfold fdR; rw [if_neg (by omega), u2_o (by omega)]
  · rw [u2_o (by omega)]
theorem uu_run (h : ICl T b ρ f g f g) (hX : IRf T f) (h5 : f 55 5 < 999000) {x1 x2 x3 : Int} (r1 : ri x1) (r2 : ri x2) (r3 : ri x3) : C_X11_run [.ref 0, .int (iz x1), .int (iz x2), .int (iz x3)] ρ f g (fun r ρ' f' g' => r = some (.int (iz (aRun T (raF f) (f 104 67) x1 x2 x3))) ∧ CP (f) (g) f g ρ' f' g') := by
  obtain ⟨i1, i2, i3, ⟨fl0, ra0, i4⟩, i5, i6, i7, i8, i9, i10, i11, i12⟩ := id h
  refine (c_run i1 i3 i4 (by omega) h.sk.1 h.sk.2 h.ra.1 r1 r2 r3).mono ?_
  rintro r ρ' f' g' ⟨rfl, rfl, q⟩
  exact ⟨rfl, CP.qw h hX (by omega) q⟩
theorem vv_run (h : ICl T b ρ f g f g) (hX : IRf T f) (h5 : f 55 5 < 999000) (hρ : Fx ρ1) (h1 : HI f g f1 g1) {x1 x2 x3 : Int} (r1 : ri x1) (r2 : ri x2) (r3 : ri x3) : C_X12_run [.ref 104, .int (iz x1), .int (iz x2), .int (iz x3)] ρ1 f1 g1 (fun r ρ' f' g' => r = some (.int (iz (aRun T (raF f) (f 104 67) x1 x2 x3))) ∧ ρ' = ρ1 ∧ RP (f) (g) f1 g1 f' g') := by
  obtain ⟨i1, i2, i3, ⟨fl0, ra0, i4⟩, i5, i6, i7, i8, i9, i10, i11, i12⟩ := id h
  have hk := i1.2.2.2.2.1
  have hT1 := h1.mt hX.1
  have e := h1.e
  have eg := h1.eg
  refine (c_mrun hρ hT1 hk (h1.1 104 67 (by omega)) h.sk.2 ((h1.1 104 68 (by omega)).trans h.ra.2) r1 r2 r3).mono ?_
  rintro r ρ' f' g' ⟨rfl, rfl, k1, k2⟩
  exact ⟨rfl, rfl, RP.km h1.e h1.eg k1 k2⟩
theorem uu_split (h : ICl T b ρ f g f g) (hX : IRf T f) (h5 : f 55 5 < 999000) {x1 x2 x3 : Int} (r1 : ri x1) (r2 : ri x2) (r3 : ri x3) : C_X11_split [.ref 0, .int (iz x1), .int (iz x2), .int (iz x3)] ρ f g (fun r ρ' f' g' => r = some (.int (iz (aSplit T (raF f) (f 104 67) x1 x2 x3))) ∧ CP (f) (g) f g ρ' f' g') := by
  obtain ⟨i1, i2, i3, ⟨fl0, ra0, i4⟩, i5, i6, i7, i8, i9, i10, i11, i12⟩ := id h
  refine (c_split i1 i3 i4 (by omega) h.sk.1 h.sk.2 h.ra.1 r1 r2 r3).mono ?_
  rintro r ρ' f' g' ⟨rfl, rfl, q⟩
  exact ⟨rfl, CP.qw h hX (by omega) q⟩
theorem vv_split (h : ICl T b ρ f g f g) (hX : IRf T f) (h5 : f 55 5 < 999000) (hρ : Fx ρ1) (h1 : HI f g f1 g1) {x1 x2 x3 : Int} (r1 : ri x1) (r2 : ri x2) (r3 : ri x3) : C_X12_split [.ref 104, .int (iz x1), .int (iz x2), .int (iz x3)] ρ1 f1 g1 (fun r ρ' f' g' => r = some (.int (iz (aSplit T (raF f) (f 104 67) x1 x2 x3))) ∧ ρ' = ρ1 ∧ RP (f) (g) f1 g1 f' g') := by
  obtain ⟨i1, i2, i3, ⟨fl0, ra0, i4⟩, i5, i6, i7, i8, i9, i10, i11, i12⟩ := id h
  have hk := i1.2.2.2.2.1
  have hT1 := h1.mt hX.1
  have e := h1.e
  have eg := h1.eg
  refine (c_msplit hρ hT1 hk (h1.1 104 67 (by omega)) h.sk.2 ((h1.1 104 68 (by omega)).trans h.ra.2) r1 r2 r3).mono ?_
  rintro r ρ' f' g' ⟨rfl, rfl, k1, k2⟩
  exact ⟨rfl, rfl, RP.km h1.e h1.eg k1 k2⟩
theorem uu_led (h : ICl T b ρ f g f g) (hX : IRf T f) (h5 : f 55 5 < 999000) {x1 x2 x3 x4 : Int} (r1 : ri x1) (r2 : ri x2) (r3 : ri x3) (r4 : ri x4) : C_X11_led [.ref 0, .int (iz x1), .int (iz x2), .int (iz x3), .int (iz x4)] ρ f g (fun r ρ' f' g' => r = some (.int (iz (aLed T (raF f) (f 104 67) x1 x2 x3 x4))) ∧ CP (f) (g) f g ρ' f' g') := by
  obtain ⟨i1, i2, i3, ⟨fl0, ra0, i4⟩, i5, i6, i7, i8, i9, i10, i11, i12⟩ := id h
  refine (c_led i1 i3 i4 (by omega) h.sk.1 h.sk.2 h.ra.1 r1 r2 r3 r4).mono ?_
  rintro r ρ' f' g' ⟨rfl, rfl, q⟩
  exact ⟨rfl, CP.qw h hX (by omega) q⟩
theorem vv_led (h : ICl T b ρ f g f g) (hX : IRf T f) (h5 : f 55 5 < 999000) (hρ : Fx ρ1) (h1 : HI f g f1 g1) {x1 x2 x3 x4 : Int} (r1 : ri x1) (r2 : ri x2) (r3 : ri x3) (r4 : ri x4) : C_X12_led [.ref 104, .int (iz x1), .int (iz x2), .int (iz x3), .int (iz x4)] ρ1 f1 g1 (fun r ρ' f' g' => r = some (.int (iz (aLed T (raF f) (f 104 67) x1 x2 x3 x4))) ∧ ρ' = ρ1 ∧ RP (f) (g) f1 g1 f' g') := by
  obtain ⟨i1, i2, i3, ⟨fl0, ra0, i4⟩, i5, i6, i7, i8, i9, i10, i11, i12⟩ := id h
  have hk := i1.2.2.2.2.1
  have hT1 := h1.mt hX.1
  have e := h1.e
  have eg := h1.eg
  refine (c_mled hρ hT1 hk (h1.1 104 67 (by omega)) h.sk.2 ((h1.1 104 68 (by omega)).trans h.ra.2) r1 r2 r3 r4).mono ?_
  rintro r ρ' f' g' ⟨rfl, rfl, k1, k2⟩
  exact ⟨rfl, rfl, RP.km h1.e h1.eg k1 k2⟩
theorem uu_law (h : ICl T b ρ f g f g) (hX : IRf T f) (h5 : f 55 5 < 999000) {x1 x2 x3 x4 : Int} (r1 : ri x1) (r2 : ri x2) (r3 : ri x3) (r4 : ri x4) : C_X11_law [.ref 0, .int (iz x1), .int (iz x2), .int (iz x3), .int (iz x4)] ρ f g (fun r ρ' f' g' => r = some (.long (lz (aLaw T (raF f) (f 104 67) x1 x2 x3 x4))) ∧ CP (f) (g) f g ρ' f' g') := by
  obtain ⟨i1, i2, i3, ⟨fl0, ra0, i4⟩, i5, i6, i7, i8, i9, i10, i11, i12⟩ := id h
  refine (c_law i1 i3 i4 (by omega) h.sk.1 h.sk.2 h.ra.1 r1 r2 r3 r4).mono ?_
  rintro r ρ' f' g' ⟨rfl, rfl, q⟩
  exact ⟨rfl, CP.qw h hX (by omega) q⟩
theorem vv_law (h : ICl T b ρ f g f g) (hX : IRf T f) (h5 : f 55 5 < 999000) (hρ : Fx ρ1) (h1 : HI f g f1 g1) {x1 x2 x3 x4 : Int} (r1 : ri x1) (r2 : ri x2) (r3 : ri x3) (r4 : ri x4) : C_X12_law [.ref 104, .int (iz x1), .int (iz x2), .int (iz x3), .int (iz x4)] ρ1 f1 g1 (fun r ρ' f' g' => r = some (.long (lz (aLaw T (raF f) (f 104 67) x1 x2 x3 x4))) ∧ ρ' = ρ1 ∧ RP (f) (g) f1 g1 f' g') := by
  obtain ⟨i1, i2, i3, ⟨fl0, ra0, i4⟩, i5, i6, i7, i8, i9, i10, i11, i12⟩ := id h
  have hk := i1.2.2.2.2.1
  have hT1 := h1.mt hX.1
  have e := h1.e
  have eg := h1.eg
  refine (c_mlaw hρ hT1 hk (h1.1 104 67 (by omega)) h.sk.2 ((h1.1 104 68 (by omega)).trans h.ra.2) r1 r2 r3 r4).mono ?_
  rintro r ρ' f' g' ⟨rfl, rfl, k1, k2⟩
  exact ⟨rfl, rfl, RP.km h1.e h1.eg k1 k2⟩
theorem uu_safe (h : ICl T b ρ f g f g) (hX : IRf T f) (h5 : f 55 5 < 999000) {x1 x2 x3 x4 : Int} (r1 : ri x1) (r2 : ri x2) (r3 : ri x3) (r4 : ri x4) : C_X11_safe [.ref 0, .int (iz x1), .int (iz x2), .int (iz x3), .int (iz x4)] ρ f g (fun r ρ' f' g' => r = some (.int (iz (aSafe T (raF f) (f 104 67) x1 x2 x3 x4))) ∧ CP (f) (g) f g ρ' f' g') := by
  obtain ⟨i1, i2, i3, ⟨fl0, ra0, i4⟩, i5, i6, i7, i8, i9, i10, i11, i12⟩ := id h
  refine (c_safe i1 i3 i4 (by omega) h.sk.1 h.sk.2 h.ra.1 r1 r2 r3 r4).mono ?_
  rintro r ρ' f' g' ⟨rfl, rfl, q⟩
  exact ⟨rfl, CP.qw h hX (by omega) q⟩
theorem vv_safe (h : ICl T b ρ f g f g) (hX : IRf T f) (h5 : f 55 5 < 999000) (hρ : Fx ρ1) (h1 : HI f g f1 g1) {x1 x2 x3 x4 : Int} (r1 : ri x1) (r2 : ri x2) (r3 : ri x3) (r4 : ri x4) : C_X12_safe [.ref 104, .int (iz x1), .int (iz x2), .int (iz x3), .int (iz x4)] ρ1 f1 g1 (fun r ρ' f' g' => r = some (.int (iz (aSafe T (raF f) (f 104 67) x1 x2 x3 x4))) ∧ ρ' = ρ1 ∧ RP (f) (g) f1 g1 f' g') := by
  obtain ⟨i1, i2, i3, ⟨fl0, ra0, i4⟩, i5, i6, i7, i8, i9, i10, i11, i12⟩ := id h
  have hk := i1.2.2.2.2.1
  have hT1 := h1.mt hX.1
  have e := h1.e
  have eg := h1.eg
  refine (c_msafe hρ hT1 hk (h1.1 104 67 (by omega)) h.sk.2 ((h1.1 104 68 (by omega)).trans h.ra.2) r1 r2 r3 r4).mono ?_
  rintro r ρ' f' g' ⟨rfl, rfl, k1, k2⟩
  exact ⟨rfl, rfl, RP.km h1.e h1.eg k1 k2⟩
theorem uu_beats (h : ICl T b ρ f g f g) (hX : IRf T f) (h5 : f 55 5 < 999000) {x1 x2 x3 x4 : Int} (r1 : ri x1) (r2 : ri x2) (r3 : ri x3) (r4 : ri x4) : C_X11_beats [.ref 0, .int (iz x1), .int (iz x2), .int (iz x3), .int (iz x4)] ρ f g (fun r ρ' f' g' => r = some (.int (iz (aBeats T (raF f) (f 104 67) x1 x2 x3 x4))) ∧ CP (f) (g) f g ρ' f' g') := by
  obtain ⟨i1, i2, i3, ⟨fl0, ra0, i4⟩, i5, i6, i7, i8, i9, i10, i11, i12⟩ := id h
  refine (c_beats i1 i3 i4 (by omega) h.sk.1 h.sk.2 h.ra.1 r1 r2 r3 r4).mono ?_
  rintro r ρ' f' g' ⟨rfl, rfl, q⟩
  exact ⟨rfl, CP.qw h hX (by omega) q⟩
theorem vv_beats (h : ICl T b ρ f g f g) (hX : IRf T f) (h5 : f 55 5 < 999000) (hρ : Fx ρ1) (h1 : HI f g f1 g1) {x1 x2 x3 x4 : Int} (r1 : ri x1) (r2 : ri x2) (r3 : ri x3) (r4 : ri x4) : C_X12_beats [.ref 104, .int (iz x1), .int (iz x2), .int (iz x3), .int (iz x4)] ρ1 f1 g1 (fun r ρ' f' g' => r = some (.int (iz (aBeats T (raF f) (f 104 67) x1 x2 x3 x4))) ∧ ρ' = ρ1 ∧ RP (f) (g) f1 g1 f' g') := by
  obtain ⟨i1, i2, i3, ⟨fl0, ra0, i4⟩, i5, i6, i7, i8, i9, i10, i11, i12⟩ := id h
  have hk := i1.2.2.2.2.1
  have hT1 := h1.mt hX.1
  have e := h1.e
  have eg := h1.eg
  refine (c_mbeats hρ hT1 hk (h1.1 104 67 (by omega)) h.sk.2 ((h1.1 104 68 (by omega)).trans h.ra.2) r1 r2 r3 r4).mono ?_
  rintro r ρ' f' g' ⟨rfl, rfl, k1, k2⟩
  exact ⟨rfl, rfl, RP.km h1.e h1.eg k1 k2⟩
theorem uu_wins (h : ICl T b ρ f g f g) (hX : IRf T f) (h5 : f 55 5 < 999000) {x1 x2 x3 x4 : Int} (r1 : ri x1) (r2 : ri x2) (r3 : ri x3) (r4 : ri x4) : C_X11_wins [.ref 0, .int (iz x1), .int (iz x2), .int (iz x3), .int (iz x4)] ρ f g (fun r ρ' f' g' => r = some (.int (iz (aWins T (raF f) (f 104 67) x1 x2 x3 x4))) ∧ CP (f) (g) f g ρ' f' g') := by
  obtain ⟨i1, i2, i3, ⟨fl0, ra0, i4⟩, i5, i6, i7, i8, i9, i10, i11, i12⟩ := id h
  refine (c_wins i1 i3 i4 (by omega) h.sk.1 h.sk.2 h.ra.1 r1 r2 r3 r4).mono ?_
  rintro r ρ' f' g' ⟨rfl, rfl, q⟩
  exact ⟨rfl, CP.qw h hX (by omega) q⟩
theorem vv_wins (h : ICl T b ρ f g f g) (hX : IRf T f) (h5 : f 55 5 < 999000) (hρ : Fx ρ1) (h1 : HI f g f1 g1) {x1 x2 x3 x4 : Int} (r1 : ri x1) (r2 : ri x2) (r3 : ri x3) (r4 : ri x4) : C_X12_wins [.ref 104, .int (iz x1), .int (iz x2), .int (iz x3), .int (iz x4)] ρ1 f1 g1 (fun r ρ' f' g' => r = some (.int (iz (aWins T (raF f) (f 104 67) x1 x2 x3 x4))) ∧ ρ' = ρ1 ∧ RP (f) (g) f1 g1 f' g') := by
  obtain ⟨i1, i2, i3, ⟨fl0, ra0, i4⟩, i5, i6, i7, i8, i9, i10, i11, i12⟩ := id h
  have hk := i1.2.2.2.2.1
  have hT1 := h1.mt hX.1
  have e := h1.e
  have eg := h1.eg
  refine (c_mwins hρ hT1 hk (h1.1 104 67 (by omega)) h.sk.2 ((h1.1 104 68 (by omega)).trans h.ra.2) r1 r2 r3 r4).mono ?_
  rintro r ρ' f' g' ⟨rfl, rfl, k1, k2⟩
  exact ⟨rfl, rfl, RP.km h1.e h1.eg k1 k2⟩
theorem uu_best (h : ICl T b ρ f g f g) (hX : IRf T f) (h5 : f 55 5 < 999000) {x1 x2 : Int} (r1 : ri x1) (r2 : ri x2) : C_X11_best [.ref 0, .int (iz x1), .int (iz x2)] ρ f g (fun r ρ' f' g' => r = some (.int (iz (aBest T (raF f) (f 104 67) x1 x2))) ∧ CP (f) (g) f g ρ' f' g') := by
  obtain ⟨i1, i2, i3, ⟨fl0, ra0, i4⟩, i5, i6, i7, i8, i9, i10, i11, i12⟩ := id h
  refine (c_best i1 i3 i4 i5 (by omega) h.sk.1 h.sk.2 h.ra.1 r1 r2).mono ?_
  rintro r ρ' f' g' ⟨rfl, q⟩
  exact ⟨rfl, CP.qs h hX (by omega) q⟩
theorem vv_best (h : ICl T b ρ f g f g) (hX : IRf T f) (h5 : f 55 5 < 999000) (hρ : Fx ρ1) (h1 : HI f g f1 g1) {x1 x2 : Int} (r1 : ri x1) (r2 : ri x2) : C_X12_best [.ref 104, .int (iz x1), .int (iz x2)] ρ1 f1 g1 (fun r ρ' f' g' => r = some (.int (iz (aBest T (raF f) (f 104 67) x1 x2))) ∧ ρ' = ρ1 ∧ RP (f) (g) f1 g1 f' g') := by
  obtain ⟨i1, i2, i3, ⟨fl0, ra0, i4⟩, i5, i6, i7, i8, i9, i10, i11, i12⟩ := id h
  have hk := i1.2.2.2.2.1
  have hT1 := h1.mt hX.1
  have e := h1.e
  have eg := h1.eg
  refine (c_mbest hρ hT1 hk (h1.1 104 67 (by omega)) h.sk.2 ((h1.1 104 68 (by omega)).trans h.ra.2) r1 r2).mono ?_
  rintro r ρ' f' g' ⟨rfl, rfl, k1, k2⟩
  exact ⟨rfl, rfl, RP.km h1.e h1.eg k1 k2⟩
theorem uu_quick (h : ICl T b ρ f g f g) (hX : IRf T f) (h5 : f 55 5 < 999000) {x1 x2 x3 : Int} (r1 : ri x1) (r2 : ri x2) (r3 : ri x3) : C_X11_quick [.ref 0, .int (iz x1), .int (iz x2), .int (iz x3)] ρ f g (fun r ρ' f' g' => r = some (.int (iz (aQuick T (raF f) (f 104 67) x1 x2 x3))) ∧ CP (f) (g) f g ρ' f' g') := by
  obtain ⟨i1, i2, i3, ⟨fl0, ra0, i4⟩, i5, i6, i7, i8, i9, i10, i11, i12⟩ := id h
  refine (c_quick i1 i3 i4 i5 (by omega) h.sk.1 h.sk.2 h.ra.1 r1 r2 r3).mono ?_
  rintro r ρ' f' g' ⟨rfl, q⟩
  exact ⟨rfl, CP.qs h hX (by omega) q⟩
theorem vv_quick (h : ICl T b ρ f g f g) (hX : IRf T f) (h5 : f 55 5 < 999000) (hρ : Fx ρ1) (h1 : HI f g f1 g1) {x1 x2 x3 : Int} (r1 : ri x1) (r2 : ri x2) (r3 : ri x3) : C_X12_quick [.ref 104, .int (iz x1), .int (iz x2), .int (iz x3)] ρ1 f1 g1 (fun r ρ' f' g' => r = some (.int (iz (aQuick T (raF f) (f 104 67) x1 x2 x3))) ∧ ρ' = ρ1 ∧ RP (f) (g) f1 g1 f' g') := by
  obtain ⟨i1, i2, i3, ⟨fl0, ra0, i4⟩, i5, i6, i7, i8, i9, i10, i11, i12⟩ := id h
  have hk := i1.2.2.2.2.1
  have hT1 := h1.mt hX.1
  have e := h1.e
  have eg := h1.eg
  refine (c_mquick hρ hT1 hk (h1.1 104 67 (by omega)) h.sk.2 ((h1.1 104 68 (by omega)).trans h.ra.2) r1 r2 r3).mono ?_
  rintro r ρ' f' g' ⟨rfl, rfl, k1, k2⟩
  exact ⟨rfl, rfl, RP.km h1.e h1.eg k1 k2⟩
theorem uu_paces (h : ICl T b ρ f g f g) (hX : IRf T f) (h5 : f 55 5 < 999000) {x1 x2 x3 : Int} (r1 : ri x1) (r2 : ri x2) (r3 : ri x3) : C_X11_paces [.ref 0, .int (iz x1), .int (iz x2), .int (iz x3)] ρ f g (fun r ρ' f' g' => r = some (.int (iz (aPaces T (raF f) (f 104 67) x1 x2 x3))) ∧ CP (f) (g) f g ρ' f' g') := by
  obtain ⟨i1, i2, i3, ⟨fl0, ra0, i4⟩, i5, i6, i7, i8, i9, i10, i11, i12⟩ := id h
  refine (c_paces i1 i3 i4 i5 (by omega) h.sk.1 h.sk.2 h.ra.1 r1 r2 r3).mono ?_
  rintro r ρ' f' g' ⟨rfl, q⟩
  exact ⟨rfl, CP.qs h hX (by omega) q⟩
theorem vv_paces (h : ICl T b ρ f g f g) (hX : IRf T f) (h5 : f 55 5 < 999000) (hρ : Fx ρ1) (h1 : HI f g f1 g1) {x1 x2 x3 : Int} (r1 : ri x1) (r2 : ri x2) (r3 : ri x3) : C_X12_paces [.ref 104, .int (iz x1), .int (iz x2), .int (iz x3)] ρ1 f1 g1 (fun r ρ' f' g' => r = some (.int (iz (aPaces T (raF f) (f 104 67) x1 x2 x3))) ∧ ρ' = ρ1 ∧ RP (f) (g) f1 g1 f' g') := by
  obtain ⟨i1, i2, i3, ⟨fl0, ra0, i4⟩, i5, i6, i7, i8, i9, i10, i11, i12⟩ := id h
  have hk := i1.2.2.2.2.1
  have hT1 := h1.mt hX.1
  have e := h1.e
  have eg := h1.eg
  refine (c_mpaces hρ hT1 hk (h1.1 104 67 (by omega)) h.sk.2 ((h1.1 104 68 (by omega)).trans h.ra.2) r1 r2 r3).mono ?_
  rintro r ρ' f' g' ⟨rfl, rfl, k1, k2⟩
  exact ⟨rfl, rfl, RP.km h1.e h1.eg k1 k2⟩
theorem uu_held (h : ICl T b ρ f g f g) (hX : IRf T f) (h5 : f 55 5 < 999000) {x1 x2 : Int} (r1 : ri x1) (r2 : ri x2) : C_X11_held [.ref 0, .int (iz x1), .int (iz x2)] ρ f g (fun r ρ' f' g' => r = some (.int (iz (aHeld T (raF f) (f 104 67) x1 x2))) ∧ CP (f) (g) f g ρ' f' g') := by
  obtain ⟨i1, i2, i3, ⟨fl0, ra0, i4⟩, i5, i6, i7, i8, i9, i10, i11, i12⟩ := id h
  refine (c_held i1 i3 i4 i5 (by omega) h.sk.1 h.sk.2 h.ra.1 r1 r2).mono ?_
  rintro r ρ' f' g' ⟨rfl, q⟩
  exact ⟨rfl, CP.qs h hX (by omega) q⟩
theorem vv_held (h : ICl T b ρ f g f g) (hX : IRf T f) (h5 : f 55 5 < 999000) (hρ : Fx ρ1) (h1 : HI f g f1 g1) {x1 x2 : Int} (r1 : ri x1) (r2 : ri x2) : C_X12_held [.ref 104, .int (iz x1), .int (iz x2)] ρ1 f1 g1 (fun r ρ' f' g' => r = some (.int (iz (aHeld T (raF f) (f 104 67) x1 x2))) ∧ ρ' = ρ1 ∧ RP (f) (g) f1 g1 f' g') := by
  obtain ⟨i1, i2, i3, ⟨fl0, ra0, i4⟩, i5, i6, i7, i8, i9, i10, i11, i12⟩ := id h
  have hk := i1.2.2.2.2.1
  have hT1 := h1.mt hX.1
  have e := h1.e
  have eg := h1.eg
  refine (c_mheld hρ hT1 hk (h1.1 104 67 (by omega)) h.sk.2 ((h1.1 104 68 (by omega)).trans h.ra.2) r1 r2).mono ?_
  rintro r ρ' f' g' ⟨rfl, rfl, k1, k2⟩
  exact ⟨rfl, rfl, RP.km h1.e h1.eg k1 k2⟩
theorem uu_flat (h : ICl T b ρ f g f g) (hX : IRf T f) (h5 : f 55 5 < 999000) {x1 x2 : Int} (r1 : ri x1) (r2 : ri x2) : C_X11_flat [.ref 0, .int (iz x1), .int (iz x2)] ρ f g (fun r ρ' f' g' => r = some (.int (iz (aFlat T (raF f) (f 104 67) x1 x2))) ∧ CP (f) (g) f g ρ' f' g') := by
  obtain ⟨i1, i2, i3, ⟨fl0, ra0, i4⟩, i5, i6, i7, i8, i9, i10, i11, i12⟩ := id h
  refine (c_flat i1 i3 i4 i5 (by omega) h.sk.1 h.sk.2 h.ra.1 r1 r2).mono ?_
  rintro r ρ' f' g' ⟨rfl, q⟩
  exact ⟨rfl, CP.qs h hX (by omega) q⟩
theorem vv_flat (h : ICl T b ρ f g f g) (hX : IRf T f) (h5 : f 55 5 < 999000) (hρ : Fx ρ1) (h1 : HI f g f1 g1) {x1 x2 : Int} (r1 : ri x1) (r2 : ri x2) : C_X12_flat [.ref 104, .int (iz x1), .int (iz x2)] ρ1 f1 g1 (fun r ρ' f' g' => r = some (.int (iz (aFlat T (raF f) (f 104 67) x1 x2))) ∧ ρ' = ρ1 ∧ RP (f) (g) f1 g1 f' g') := by
  obtain ⟨i1, i2, i3, ⟨fl0, ra0, i4⟩, i5, i6, i7, i8, i9, i10, i11, i12⟩ := id h
  have hk := i1.2.2.2.2.1
  have hT1 := h1.mt hX.1
  have e := h1.e
  have eg := h1.eg
  refine (c_mflat hρ hT1 hk (h1.1 104 67 (by omega)) h.sk.2 ((h1.1 104 68 (by omega)).trans h.ra.2) r1 r2).mono ?_
  rintro r ρ' f' g' ⟨rfl, rfl, k1, k2⟩
  exact ⟨rfl, rfl, RP.km h1.e h1.eg k1 k2⟩
theorem uu_weighed (h : ICl T b ρ f g f g) (hX : IRf T f) (h5 : f 55 5 < 999000) {x1 x2 x3 x4 : Int} (r1 : ri x1) (r2 : ri x2) (r3 : ri x3) (r4 : ri x4) : C_X11_weighed [.ref 0, .int (iz x1), .int (iz x2), .int (iz x3), .int (iz x4)] ρ f g (fun r ρ' f' g' => r = some (.int (iz (aWeighed T (raF f) (f 104 67) x1 x2 x3 x4))) ∧ CP (f) (g) f g ρ' f' g') := by
  obtain ⟨i1, i2, i3, ⟨fl0, ra0, i4⟩, i5, i6, i7, i8, i9, i10, i11, i12⟩ := id h
  refine (c_weighed i1 i3 i4 i5 (by omega) h.sk.1 h.sk.2 h.ra.1 r1 r2 r3 r4).mono ?_
  rintro r ρ' f' g' ⟨rfl, q⟩
  exact ⟨rfl, CP.qs h hX (by omega) q⟩
theorem vv_weighed (h : ICl T b ρ f g f g) (hX : IRf T f) (h5 : f 55 5 < 999000) (hρ : Fx ρ1) (h1 : HI f g f1 g1) {x1 x2 x3 x4 : Int} (r1 : ri x1) (r2 : ri x2) (r3 : ri x3) (r4 : ri x4) : C_X12_weighed [.ref 104, .int (iz x1), .int (iz x2), .int (iz x3), .int (iz x4)] ρ1 f1 g1 (fun r ρ' f' g' => r = some (.int (iz (aWeighed T (raF f) (f 104 67) x1 x2 x3 x4))) ∧ ρ' = ρ1 ∧ RP (f) (g) f1 g1 f' g') := by
  obtain ⟨i1, i2, i3, ⟨fl0, ra0, i4⟩, i5, i6, i7, i8, i9, i10, i11, i12⟩ := id h
  have hk := i1.2.2.2.2.1
  have hT1 := h1.mt hX.1
  have e := h1.e
  have eg := h1.eg
  refine (c_mweighed hρ hT1 hk (h1.1 104 67 (by omega)) h.sk.2 ((h1.1 104 68 (by omega)).trans h.ra.2) r1 r2 r3 r4).mono ?_
  rintro r ρ' f' g' ⟨rfl, rfl, k1, k2⟩
  exact ⟨rfl, rfl, RP.km h1.e h1.eg k1 k2⟩
theorem uu_alike (h : ICl T b ρ f g f g) (hX : IRf T f) (h5 : f 55 5 < 999000) {x1 x2 x3 : Int} (r1 : ri x1) (r2 : ri x2) (r3 : ri x3) : C_X11_alike [.ref 0, .int (iz x1), .int (iz x2), .int (iz x3)] ρ f g (fun r ρ' f' g' => r = some (.int (iz (aAlike T (raF f) x1 x2 x3))) ∧ CP (f) (g) f g ρ' f' g') := by
  obtain ⟨i1, i2, i3, ⟨fl0, ra0, i4⟩, i5, i6, i7, i8, i9, i10, i11, i12⟩ := id h
  refine (c_alike i1 i3 i4 i5 (by omega) h.ra.1 r1 r2 r3).mono ?_
  rintro r ρ' f' g' ⟨rfl, q⟩
  exact ⟨rfl, CP.qs h hX (by omega) q⟩
theorem vv_alike (h : ICl T b ρ f g f g) (hX : IRf T f) (h5 : f 55 5 < 999000) (hρ : Fx ρ1) (h1 : HI f g f1 g1) {x1 x2 x3 : Int} (r1 : ri x1) (r2 : ri x2) (r3 : ri x3) : C_X12_alike [.ref 104, .int (iz x1), .int (iz x2), .int (iz x3)] ρ1 f1 g1 (fun r ρ' f' g' => r = some (.int (iz (aAlike T (raF f) x1 x2 x3))) ∧ ρ' = ρ1 ∧ RP (f) (g) f1 g1 f' g') := by
  obtain ⟨i1, i2, i3, ⟨fl0, ra0, i4⟩, i5, i6, i7, i8, i9, i10, i11, i12⟩ := id h
  have hk := i1.2.2.2.2.1
  have hT1 := h1.mt hX.1
  have e := h1.e
  have eg := h1.eg
  refine (c_malike hρ hT1 hk (h1.1 104 67 (by omega)) h.sk.2 ((h1.1 104 68 (by omega)).trans h.ra.2) r1 r2 r3).mono ?_
  rintro r ρ' f' g' ⟨rfl, rfl, k1, k2⟩
  exact ⟨rfl, rfl, RP.km h1.e h1.eg k1 k2⟩
theorem uu_rests (h : ICl T b ρ f g f g) (hX : IRf T f) (h5 : f 55 5 < 999000) {x1 x2 : Int} (r1 : ri x1) (r2 : ri x2) : C_X11_rests [.ref 0, .int (iz x1), .int (iz x2)] ρ f g (fun r ρ' f' g' => r = some (.int (iz (if cornO T x1 x2 = true then aRest T (raF f) (f 104 67) x1 x2 (-1) else -1))) ∧ CP (f) (g) f g ρ' f' g') := by
  obtain ⟨i1, i2, i3, ⟨fl0, ra0, i4⟩, i5, i6, i7, i8, i9, i10, i11, i12⟩ := id h
  refine (c_rests i1 i3 i4 h5 h.sk.1 h.sk.2 h.ra.1 r1 r2).mono ?_
  rintro r ρ' f' g' ⟨rfl, rfl, q⟩
  exact ⟨rfl, CP.qc h hX (by omega) q⟩
theorem vv_rests (h : ICl T b ρ f g f g) (hX : IRf T f) (h5 : f 55 5 < 999000) (hρ : Fx ρ1) (h1 : HI f g f1 g1) {x1 x2 : Int} (r1 : ri x1) (r2 : ri x2) : C_X12_rests [.ref 104, .int (iz x1), .int (iz x2)] ρ1 f1 g1 (fun r ρ' f' g' => r = some (.int (iz (if cornO T x1 x2 = true then aRest T (raF f) (f 104 67) x1 x2 (-1) else -1))) ∧ ρ' = ρ1 ∧ RP (f) (g) f1 g1 f' g') := by
  obtain ⟨i1, i2, i3, ⟨fl0, ra0, i4⟩, i5, i6, i7, i8, i9, i10, i11, i12⟩ := id h
  have hk := i1.2.2.2.2.1
  have hT1 := h1.mt hX.1
  have e := h1.e
  have eg := h1.eg
  refine (c_mrests hρ hT1 hk (h1.1 104 67 (by omega)) h.sk.2 ((h1.1 104 68 (by omega)).trans h.ra.2) r1 r2).mono ?_
  rintro r ρ' f' g' ⟨rfl, rfl, k1, k2⟩
  exact ⟨rfl, rfl, RP.km h1.e h1.eg k1 k2⟩
theorem uu_rest (h : ICl T b ρ f g f g) (hX : IRf T f) (h5 : f 55 5 < 999000) {x1 x2 x3 : Int} (r1 : ri x1) (r2 : ri x2) (r3 : ri x3) : C_X11_rest [.ref 0, .int (iz x1), .int (iz x2), .int (iz x3)] ρ f g (fun r ρ' f' g' => r = some (.int (iz (if (cornO T x1 x2 && decide (0 ≤ x3)) = true then aRest T (raF f) (f 104 67) x1 x2 x3 else -1))) ∧ CP (f) (g) f g ρ' f' g') := by
  obtain ⟨i1, i2, i3, ⟨fl0, ra0, i4⟩, i5, i6, i7, i8, i9, i10, i11, i12⟩ := id h
  refine (c_rest i1 i3 i4 h5 h.sk.1 h.sk.2 h.ra.1 r1 r2 r3).mono ?_
  rintro r ρ' f' g' ⟨rfl, rfl, q⟩
  exact ⟨rfl, CP.qc h hX (by omega) q⟩
theorem vv_rest (h : ICl T b ρ f g f g) (hX : IRf T f) (h5 : f 55 5 < 999000) (hρ : Fx ρ1) (h1 : HI f g f1 g1) {x1 x2 x3 : Int} (r1 : ri x1) (r2 : ri x2) (r3 : ri x3) : C_X12_rest [.ref 104, .int (iz x1), .int (iz x2), .int (iz x3)] ρ1 f1 g1 (fun r ρ' f' g' => r = some (.int (iz (if (cornO T x1 x2 && decide (0 ≤ x3)) = true then aRest T (raF f) (f 104 67) x1 x2 x3 else -1))) ∧ ρ' = ρ1 ∧ RP (f) (g) f1 g1 f' g') := by
  obtain ⟨i1, i2, i3, ⟨fl0, ra0, i4⟩, i5, i6, i7, i8, i9, i10, i11, i12⟩ := id h
  have hk := i1.2.2.2.2.1
  have hT1 := h1.mt hX.1
  have e := h1.e
  have eg := h1.eg
  refine (c_mrest hρ hT1 hk (h1.1 104 67 (by omega)) h.sk.2 ((h1.1 104 68 (by omega)).trans h.ra.2) r1 r2 r3).mono ?_
  rintro r ρ' f' g' ⟨rfl, rfl, k1, k2⟩
  exact ⟨rfl, rfl, RP.km h1.e h1.eg k1 k2⟩
theorem uu_corner (h : ICl T b ρ f g f g) (hX : IRf T f) (h5 : f 55 5 < 999000) {x1 x2 x3 : Int} (r1 : ri x1) (r2 : ri x2) (r3 : ri x3) : C_X11_corner [.ref 0, .int (iz x1), .int (iz x2), .int (iz x3)] ρ f g (fun r ρ' f' g' => r = some (.int (iz (aCorner T (raF f) (f 104 67) x1 x2 x3))) ∧ CP (f) (g) f g ρ' f' g') := by
  obtain ⟨i1, i2, i3, ⟨fl0, ra0, i4⟩, i5, i6, i7, i8, i9, i10, i11, i12⟩ := id h
  refine (c_corner i1 i3 i4 h5 h.sk.1 h.sk.2 h.ra.1 r1 r2 r3).mono ?_
  rintro r ρ' f' g' ⟨rfl, rfl, q⟩
  exact ⟨rfl, CP.qc h hX (by omega) q⟩
theorem vv_corner (h : ICl T b ρ f g f g) (hX : IRf T f) (h5 : f 55 5 < 999000) (hρ : Fx ρ1) (h1 : HI f g f1 g1) {x1 x2 x3 : Int} (r1 : ri x1) (r2 : ri x2) (r3 : ri x3) : C_X12_corner [.ref 104, .int (iz x1), .int (iz x2), .int (iz x3)] ρ1 f1 g1 (fun r ρ' f' g' => r = some (.int (iz (aCorner T (raF f) (f 104 67) x1 x2 x3))) ∧ ρ' = ρ1 ∧ RP (f) (g) f1 g1 f' g') := by
  obtain ⟨i1, i2, i3, ⟨fl0, ra0, i4⟩, i5, i6, i7, i8, i9, i10, i11, i12⟩ := id h
  have hk := i1.2.2.2.2.1
  have hT1 := h1.mt hX.1
  have e := h1.e
  have eg := h1.eg
  refine (c_mcorner hρ hT1 hk (h1.1 104 67 (by omega)) h.sk.2 ((h1.1 104 68 (by omega)).trans h.ra.2) r1 r2 r3).mono ?_
  rintro r ρ' f' g' ⟨rfl, rfl, k1, k2⟩
  exact ⟨rfl, rfl, RP.km h1.e h1.eg k1 k2⟩
theorem uu_named (h : ICl T b ρ f g f g) (hX : IRf T f) (h5 : f 55 5 < 999000) {x1 x2 : Int} (r1 : ri x1) (r2 : ri x2) : C_X11_named [.ref 0, .int (iz x1), .int (iz x2)] ρ f g (fun r ρ' f' g' => r = some (.int (iz (aNamed T x1 x2))) ∧ CP (f) (g) f g ρ' f' g') := by
  obtain ⟨i1, i2, i3, ⟨fl0, ra0, i4⟩, i5, i6, i7, i8, i9, i10, i11, i12⟩ := id h
  refine (c_named2 i1 i3 i12 r1 r2).mono ?_
  rintro r ρ' f' g' ⟨rfl, rfl, rfl, rfl⟩
  exact ⟨rfl, CP.id h hX⟩
theorem vv_named (h : ICl T b ρ f g f g) (hX : IRf T f) (h5 : f 55 5 < 999000) (hρ : Fx ρ1) (h1 : HI f g f1 g1) {x1 x2 : Int} (r1 : ri x1) (r2 : ri x2) : C_X12_named [.ref 104, .int (iz x1), .int (iz x2)] ρ1 f1 g1 (fun r ρ' f' g' => r = some (.int (iz (aNamed T x1 x2))) ∧ ρ' = ρ1 ∧ RP (f) (g) f1 g1 f' g') := by
  obtain ⟨i1, i2, i3, ⟨fl0, ra0, i4⟩, i5, i6, i7, i8, i9, i10, i11, i12⟩ := id h
  have hk := i1.2.2.2.2.1
  have hT1 := h1.mt hX.1
  have e := h1.e
  have eg := h1.eg
  refine (c_mnamed2 hρ hT1 hk i12 r1 r2).mono ?_
  rintro r ρ' f' g' ⟨rfl, rfl, k1, k2⟩
  exact ⟨rfl, rfl, RP.km h1.e h1.eg k1 k2⟩
theorem uu_pace (h : ICl T b ρ f g f g) (hX : IRf T f) (h5 : f 55 5 < 999000) {x1 x2 : Int} (r1 : ri x1) (r2 : ri x2) : C_X11_pace [.ref 0, .int (iz x1), .int (iz x2)] ρ f g (fun r ρ' f' g' => r = some (.int (iz (aPace T x1 x2))) ∧ CP (f) (g) f g ρ' f' g') := by
  obtain ⟨i1, i2, i3, ⟨fl0, ra0, i4⟩, i5, i6, i7, i8, i9, i10, i11, i12⟩ := id h
  refine (c_pace i1 i3 r1 r2).mono ?_
  rintro r ρ' f' g' ⟨rfl, rfl, rfl, rfl⟩
  exact ⟨rfl, CP.id h hX⟩
theorem vv_pace (h : ICl T b ρ f g f g) (hX : IRf T f) (h5 : f 55 5 < 999000) (hρ : Fx ρ1) (h1 : HI f g f1 g1) {x1 x2 : Int} (r1 : ri x1) (r2 : ri x2) : C_X12_pace [.ref 104, .int (iz x1), .int (iz x2)] ρ1 f1 g1 (fun r ρ' f' g' => r = some (.int (iz (aPace T x1 x2))) ∧ ρ' = ρ1 ∧ RP (f) (g) f1 g1 f' g') := by
  obtain ⟨i1, i2, i3, ⟨fl0, ra0, i4⟩, i5, i6, i7, i8, i9, i10, i11, i12⟩ := id h
  have hk := i1.2.2.2.2.1
  have hT1 := h1.mt hX.1
  have e := h1.e
  have eg := h1.eg
  refine (c_mpace hρ hT1 hk r1 r2).mono ?_
  rintro r ρ' f' g' ⟨rfl, rfl, k1, k2⟩
  exact ⟨rfl, rfl, RP.km h1.e h1.eg k1 k2⟩
theorem uu_down (h : ICl T b ρ f g f g) (hX : IRf T f) (h5 : f 55 5 < 999000) {x1 x2 x3 x4 : Int} (r1 : ri x1) (r2 : ri x2) (r3 : ri x3) (r4 : ri x4) : C_X11_down [.ref 0, .int (iz x1), .int (iz x2), .int (iz x3), .int (iz x4)] ρ f g (fun r ρ' f' g' => r = some (.long (lz (aDown T x1 x2 x3 x4))) ∧ CP (f) (g) f g ρ' f' g') := by
  obtain ⟨i1, i2, i3, ⟨fl0, ra0, i4⟩, i5, i6, i7, i8, i9, i10, i11, i12⟩ := id h
  refine (c_down i1 i3 r1 r2 r3 r4).mono ?_
  rintro r ρ' f' g' ⟨rfl, rfl, rfl, rfl⟩
  exact ⟨rfl, CP.id h hX⟩
theorem vv_down (h : ICl T b ρ f g f g) (hX : IRf T f) (h5 : f 55 5 < 999000) (hρ : Fx ρ1) (h1 : HI f g f1 g1) {x1 x2 x3 x4 : Int} (r1 : ri x1) (r2 : ri x2) (r3 : ri x3) (r4 : ri x4) : C_X12_down [.ref 104, .int (iz x1), .int (iz x2), .int (iz x3), .int (iz x4)] ρ1 f1 g1 (fun r ρ' f' g' => r = some (.long (lz (aDown T x1 x2 x3 x4))) ∧ ρ' = ρ1 ∧ RP (f) (g) f1 g1 f' g') := by
  obtain ⟨i1, i2, i3, ⟨fl0, ra0, i4⟩, i5, i6, i7, i8, i9, i10, i11, i12⟩ := id h
  have hk := i1.2.2.2.2.1
  have hT1 := h1.mt hX.1
  have e := h1.e
  have eg := h1.eg
  refine (c_mdown hρ hT1 hk r1 r2 r3 r4).mono ?_
  rintro r ρ' f' g' ⟨rfl, rfl, k1, k2⟩
  exact ⟨rfl, rfl, RP.km h1.e h1.eg k1 k2⟩
theorem uu_errors (h : ICl T b ρ f g f g) (hX : IRf T f) (h5 : f 55 5 < 999000) {x1 x2 : Int} (r1 : ri x1) (r2 : ri x2) : C_X11_errors [.ref 0, .int (iz x1), .int (iz x2)] ρ f g (fun r ρ' f' g' => r = some (.int (iz (aErrors T x1 x2))) ∧ CP (f) (g) f g ρ' f' g') := by
  obtain ⟨i1, i2, i3, ⟨fl0, ra0, i4⟩, i5, i6, i7, i8, i9, i10, i11, i12⟩ := id h
  refine (c_errors i1 i3 r1 r2).mono ?_
  rintro r ρ' f' g' ⟨rfl, rfl, rfl, rfl⟩
  exact ⟨rfl, CP.id h hX⟩
theorem vv_errors (h : ICl T b ρ f g f g) (hX : IRf T f) (h5 : f 55 5 < 999000) (hρ : Fx ρ1) (h1 : HI f g f1 g1) {x1 x2 : Int} (r1 : ri x1) (r2 : ri x2) : C_X12_errors [.ref 104, .int (iz x1), .int (iz x2)] ρ1 f1 g1 (fun r ρ' f' g' => r = some (.int (iz (aErrors T x1 x2))) ∧ ρ' = ρ1 ∧ RP (f) (g) f1 g1 f' g') := by
  obtain ⟨i1, i2, i3, ⟨fl0, ra0, i4⟩, i5, i6, i7, i8, i9, i10, i11, i12⟩ := id h
  have hk := i1.2.2.2.2.1
  have hT1 := h1.mt hX.1
  have e := h1.e
  have eg := h1.eg
  refine (c_merrors hρ hT1 hk r1 r2).mono ?_
  rintro r ρ' f' g' ⟨rfl, rfl, k1, k2⟩
  exact ⟨rfl, rfl, RP.km h1.e h1.eg k1 k2⟩
theorem uu_rule (h : ICl T b ρ f g f g) (hX : IRf T f) (h5 : f 55 5 < 999000)  : C_X11_rule [.ref 0] ρ f g (fun r ρ' f' g' => r = some (.int (iz (aRule T))) ∧ CP (f) (g) f g ρ' f' g') := by
  obtain ⟨i1, i2, i3, ⟨fl0, ra0, i4⟩, i5, i6, i7, i8, i9, i10, i11, i12⟩ := id h
  refine (c_rule i1 i3).mono ?_
  rintro r ρ' f' g' ⟨rfl, rfl, rfl, rfl⟩
  exact ⟨rfl, CP.id h hX⟩
theorem vv_rule (h : ICl T b ρ f g f g) (hX : IRf T f) (h5 : f 55 5 < 999000) (hρ : Fx ρ1) (h1 : HI f g f1 g1)  : C_X12_rule [.ref 104] ρ1 f1 g1 (fun r ρ' f' g' => r = some (.int (iz (aRule T))) ∧ ρ' = ρ1 ∧ RP (f) (g) f1 g1 f' g') := by
  obtain ⟨i1, i2, i3, ⟨fl0, ra0, i4⟩, i5, i6, i7, i8, i9, i10, i11, i12⟩ := id h
  have hk := i1.2.2.2.2.1
  have hT1 := h1.mt hX.1
  have e := h1.e
  have eg := h1.eg
  refine (c_mrule hρ hT1 hk).mono ?_
  rintro r ρ' f' g' ⟨rfl, rfl, k1, k2⟩
  exact ⟨rfl, rfl, RP.km h1.e h1.eg k1 k2⟩
theorem uu_now (h : ICl T b ρ f g f g) (hX : IRf T f) (h5 : f 55 5 < 999000) {x1 : Int} (r1 : ri x1) : C_X11_now [.ref 0, .int (iz x1)] ρ f g (fun r ρ' f' g' => r = some (.int (iz (aNow T x1 f))) ∧ CP (f) (g) f g ρ' f' g') := by
  obtain ⟨i1, i2, i3, ⟨fl0, ra0, i4⟩, i5, i6, i7, i8, i9, i10, i11, i12⟩ := id h
  refine (c_now i1 i3 i9 r1).mono ?_
  rintro r ρ' f' g' ⟨rfl, rfl, rfl, rfl⟩
  exact ⟨rfl, CP.id h hX⟩
theorem vv_now (h : ICl T b ρ f g f g) (hX : IRf T f) (h5 : f 55 5 < 999000) (hρ : Fx ρ1) (h1 : HI f g f1 g1) {x1 : Int} (r1 : ri x1) : C_X12_now [.ref 104, .int (iz x1)] ρ1 f1 g1 (fun r ρ' f' g' => r = some (.int (iz (aNow T x1 f))) ∧ ρ' = ρ1 ∧ RP (f) (g) f1 g1 f' g') := by
  obtain ⟨i1, i2, i3, ⟨fl0, ra0, i4⟩, i5, i6, i7, i8, i9, i10, i11, i12⟩ := id h
  have hk := i1.2.2.2.2.1
  have hT1 := h1.mt hX.1
  have e := h1.e
  have eg := h1.eg
  refine (c_mnow hρ hT1 hk (h1.rc h.rc) r1).mono ?_
  rintro r ρ' f' g' ⟨rfl, rfl, k1, k2⟩
  exact ⟨by rw [e, aNow_mx], rfl, RP.km h1.e h1.eg k1 k2⟩
theorem uu_count (h : ICl T b ρ f g f g) (hX : IRf T f) (h5 : f 55 5 < 999000) {x1 : Int} (r1 : ri x1) : C_X11_count [.ref 0, .int (iz x1)] ρ f g (fun r ρ' f' g' => r = some (.int (iz (aCount T x1 f))) ∧ CP (f) (g) f g ρ' f' g') := by
  obtain ⟨i1, i2, i3, ⟨fl0, ra0, i4⟩, i5, i6, i7, i8, i9, i10, i11, i12⟩ := id h
  refine (c_count i1 i3 i9 i7 r1).mono ?_
  rintro r ρ' f' g' ⟨rfl, rfl, rfl, rfl⟩
  exact ⟨rfl, CP.id h hX⟩
theorem vv_count (h : ICl T b ρ f g f g) (hX : IRf T f) (h5 : f 55 5 < 999000) (hρ : Fx ρ1) (h1 : HI f g f1 g1) {x1 : Int} (r1 : ri x1) : C_X12_count [.ref 104, .int (iz x1)] ρ1 f1 g1 (fun r ρ' f' g' => r = some (.int (iz (aCount T x1 f))) ∧ ρ' = ρ1 ∧ RP (f) (g) f1 g1 f' g') := by
  obtain ⟨i1, i2, i3, ⟨fl0, ra0, i4⟩, i5, i6, i7, i8, i9, i10, i11, i12⟩ := id h
  have hk := i1.2.2.2.2.1
  have hT1 := h1.mt hX.1
  have e := h1.e
  have eg := h1.eg
  refine (c_mcount hρ hT1 hk r1 (by rw [h1.1 104 91 (by omega)]; have := i7.1.1; have := i7.1.2.1; unfold ri; omega)).mono ?_
  rintro r ρ' f' g' ⟨rfl, rfl, k1, k2⟩
  exact ⟨by rw [e, aCount_mx], rfl, RP.km h1.e h1.eg k1 k2⟩
theorem uu_trained (h : ICl T b ρ f g f g) (hX : IRf T f) (h5 : f 55 5 < 999000) {x1 x2 x3 x4 : Int} (r1 : ri x1) (r2 : ri x2) (r3 : ri x3) (r4 : ri x4) : C_X11_trainedD [.ref 0, .int (iz x1), .int (iz x2), .int (iz x3), .int (iz x4)] ρ f g (fun r ρ' f' g' => r = some (.int (iz (aTrained T x1 x2 x3 x4))) ∧ CP (f) (g) f g ρ' f' g') := by
  obtain ⟨i1, i2, i3, ⟨fl0, ra0, i4⟩, i5, i6, i7, i8, i9, i10, i11, i12⟩ := id h
  refine (c_trained i1 i3 i6 r1 r2 r3 r4).mono ?_
  rintro r ρ' f' g' ⟨rfl, rfl, q, q1, q2⟩
  exact ⟨rfl, ⟨⟨T, b, h.tr q q1 q2, hX⟩, by rw [q1 55 5 (by omega)]; omega, fun a k z => q1 a k (by omega), fun a k z => by have := i1.2.1; rw [q2 a (by omega) (by omega)]⟩⟩
theorem vv_trained (h : ICl T b ρ f g f g) (hX : IRf T f) (h5 : f 55 5 < 999000) (hρ : Fx ρ1) (h1 : HI f g f1 g1) {x1 x2 x3 x4 : Int} (r1 : ri x1) (r2 : ri x2) (r3 : ri x3) (r4 : ri x4) : C_X12_trained [.ref 104, .int (iz x1), .int (iz x2), .int (iz x3), .int (iz x4)] ρ1 f1 g1 (fun r ρ' f' g' => r = some (.int (iz (aTrained T x1 x2 x3 x4))) ∧ ρ' = ρ1 ∧ RP (f) (g) f1 g1 f' g') := by
  obtain ⟨i1, i2, i3, ⟨fl0, ra0, i4⟩, i5, i6, i7, i8, i9, i10, i11, i12⟩ := id h
  have hk := i1.2.2.2.2.1
  have hT1 := h1.mt hX.1
  have e := h1.e
  have eg := h1.eg
  refine (c_mtrained hρ hT1 hk r1 r2 r3 r4).mono ?_
  rintro r ρ' f' g' ⟨rfl, rfl, k1, k2⟩
  exact ⟨rfl, rfl, RP.km h1.e h1.eg k1 k2⟩
theorem uu_fits (h : ICl T b ρ f g f g) (hX : IRf T f) (h5 : f 55 5 < 999000) {x1 x2 : Int} (r1 : ri x1) (r2 : ri x2) : C_X11_fits [.ref 0, .int (iz x1), .int (iz x2)] ρ f g (fun r ρ' f' g' => r = some (.int (iz (aFits T (raF f) (f 104 67) x1 x2 f))) ∧ CP (f) (g) f g ρ' f' g') := by
  obtain ⟨i1, i2, i3, ⟨fl0, ra0, i4⟩, i5, i6, i7, i8, i9, i10, i11, i12⟩ := id h
  refine (c_fits i1 i3 i4 (by omega) h.sk.1 h.sk.2 h.ra.1 i7 i8 r1 r2).mono ?_
  rintro r ρ' f' g' ⟨rfl, rfl, q⟩
  exact ⟨rfl, CP.qf h hX (by omega) q⟩
theorem vv_fits (h : ICl T b ρ f g f g) (hX : IRf T f) (h5 : f 55 5 < 999000) (hρ : Fx ρ1) (h1 : HI f g f1 g1) {x1 x2 : Int} (r1 : ri x1) (r2 : ri x2) : C_X12_fits [.ref 104, .int (iz x1), .int (iz x2)] ρ1 f1 g1 (fun r ρ' f' g' => r = some (.int (iz (aFits T (raF f) (f 104 67) x1 x2 f))) ∧ ρ' = ρ1 ∧ RP (f) (g) f1 g1 f' g') := by
  obtain ⟨i1, i2, i3, ⟨fl0, ra0, i4⟩, i5, i6, i7, i8, i9, i10, i11, i12⟩ := id h
  have hk := i1.2.2.2.2.1
  have hT1 := h1.mt hX.1
  have e := h1.e
  have eg := h1.eg
  have hN1 : NTK T f1 := by
    have q : f1 142 = f 142 := funext fun k => h1.1 142 k (by omega)
    have q0 := i7.1
    unfold NTK at *
    rw [h1.1 104 90 (by omega), h1.1 104 91 (by omega), q]
    exact q0
  refine (c_mfits hρ hT1 hk (hN1) (h1.1 104 67 (by omega)) h.sk.2 ((h1.1 104 68 (by omega)).trans h.ra.2) r1 r2).mono ?_
  rintro r ρ' f' g' ⟨rfl, rfl, k1, k2⟩
  exact ⟨by rw [e, aFits_mx], rfl, RP.km h1.e h1.eg k1 k2⟩
theorem uu_race (h : ICl T b ρ f g f g) (hX : IRf T f) (h5 : f 55 5 < 999000) {x1 x2 : Int} (r1 : ri x1) (r2 : ri x2) : C_X11_race [.ref 0, .int (iz x1), .int (iz x2)] ρ f g (fun r ρ' f' g' => r = some (.int (iz (bz (okM T x1 && okP T x2)))) ∧ CP (raceF T x1 x2 f) (g) f g ρ' f' g') := by
  obtain ⟨i1, i2, i3, ⟨fl0, ra0, i4⟩, i5, i6, i7, i8, i9, i10, i11, i12⟩ := id h
  refine (c_race i1 i3 i9 r1 r2).mono ?_
  rintro r ρ' f' g' ⟨rfl, rfl, q, q1, rfl⟩
  exact ⟨rfl, CP.rk h hX q q1 (fun _ _ _ => rfl) (fun a k z1 z2 z3 z4 => raceF_o (by omega) z2) ⟨raceF_o (by omega) (by omega), raceF_o (by omega) (by omega)⟩⟩
theorem vv_race (h : ICl T b ρ f g f g) (hX : IRf T f) (h5 : f 55 5 < 999000) (hρ : Fx ρ1) (h1 : HI f g f1 g1) {x1 x2 : Int} (r1 : ri x1) (r2 : ri x2) : C_X12_race [.ref 104, .int (iz x1), .int (iz x2)] ρ1 f1 g1 (fun r ρ' f' g' => r = some (.int (iz (bz (okM T x1 && okP T x2)))) ∧ ρ' = ρ1 ∧ RP (raceF T x1 x2 f) (g) f1 g1 f' g') := by
  obtain ⟨i1, i2, i3, ⟨fl0, ra0, i4⟩, i5, i6, i7, i8, i9, i10, i11, i12⟩ := id h
  have hk := i1.2.2.2.2.1
  have hT1 := h1.mt hX.1
  have e := h1.e
  have eg := h1.eg
  refine (c_mrace hρ hT1 hk r1 r2).mono ?_
  rintro r ρ' f' g' ⟨rfl, rfl, k1, k2⟩
  exact ⟨rfl, rfl, RP.km (by rw [e, raceF_mx, mx_mx]) h1.eg k1 k2⟩
theorem uu_paced (h : ICl T b ρ f g f g) (hX : IRf T f) (h5 : f 55 5 < 999000) {x1 : Int} (r1 : ri x1) : C_X11_paced [.ref 0, .int (iz x1)] ρ f g (fun r ρ' f' g' => r = some (.int (iz (bz (pcdO T x1 f)))) ∧ CP (pcdF T x1 f) (g) f g ρ' f' g') := by
  obtain ⟨i1, i2, i3, ⟨fl0, ra0, i4⟩, i5, i6, i7, i8, i9, i10, i11, i12⟩ := id h
  refine (c_paced i1 i3 i9 r1).mono ?_
  rintro r ρ' f' g' ⟨rfl, rfl, q, q1, rfl⟩
  exact ⟨rfl, CP.rk h hX q q1 (fun _ _ _ => rfl) (fun a k z1 z2 z3 z4 => pcdF_o z2) ⟨pcdF_o (by omega), pcdF_o (by omega)⟩⟩
theorem vv_paced (h : ICl T b ρ f g f g) (hX : IRf T f) (h5 : f 55 5 < 999000) (hρ : Fx ρ1) (h1 : HI f g f1 g1) {x1 : Int} (r1 : ri x1) : C_X12_paced [.ref 104, .int (iz x1)] ρ1 f1 g1 (fun r ρ' f' g' => r = some (.int (iz (bz (pcdO T x1 f)))) ∧ ρ' = ρ1 ∧ RP (pcdF T x1 f) (g) f1 g1 f' g') := by
  obtain ⟨i1, i2, i3, ⟨fl0, ra0, i4⟩, i5, i6, i7, i8, i9, i10, i11, i12⟩ := id h
  have hk := i1.2.2.2.2.1
  have hT1 := h1.mt hX.1
  have e := h1.e
  have eg := h1.eg
  refine (c_mpaced hρ hT1 hk (h1.rc h.rc) r1).mono ?_
  rintro r ρ' f' g' ⟨rfl, rfl, k1, k2⟩
  exact ⟨by rw [e, pcdO_mx], rfl, RP.km (by rw [e, pcdF_mx, mx_mx]) h1.eg k1 k2⟩
theorem uu_shift (h : ICl T b ρ f g f g) (hX : IRf T f) (h5 : f 55 5 < 999000) {x1 : Int} (r1 : ri x1) : C_X11_shift [.ref 0, .int (iz x1)] ρ f g (fun r ρ' f' g' => r = some (.int (iz (if shfO T x1 f = true then T 119 x1.toNat else -1))) ∧ CP (shfF T x1 f) (g) f g ρ' f' g') := by
  obtain ⟨i1, i2, i3, ⟨fl0, ra0, i4⟩, i5, i6, i7, i8, i9, i10, i11, i12⟩ := id h
  refine (c_shift i1 i3 i9 r1).mono ?_
  rintro r ρ' f' g' ⟨rfl, rfl, q, q1, rfl⟩
  exact ⟨rfl, CP.rk h hX q q1 (fun _ _ _ => rfl) (fun a k z1 z2 z3 z4 => shfF_o z2) ⟨shfF_o (by omega), shfF_o (by omega)⟩⟩
theorem vv_shift (h : ICl T b ρ f g f g) (hX : IRf T f) (h5 : f 55 5 < 999000) (hρ : Fx ρ1) (h1 : HI f g f1 g1) {x1 : Int} (r1 : ri x1) : C_X12_shift [.ref 104, .int (iz x1)] ρ1 f1 g1 (fun r ρ' f' g' => r = some (.int (iz (if shfO T x1 f = true then T 119 x1.toNat else -1))) ∧ ρ' = ρ1 ∧ RP (shfF T x1 f) (g) f1 g1 f' g') := by
  obtain ⟨i1, i2, i3, ⟨fl0, ra0, i4⟩, i5, i6, i7, i8, i9, i10, i11, i12⟩ := id h
  have hk := i1.2.2.2.2.1
  have hT1 := h1.mt hX.1
  have e := h1.e
  have eg := h1.eg
  refine (c_mshift hρ hT1 hk (h1.rc h.rc) r1).mono ?_
  rintro r ρ' f' g' ⟨rfl, rfl, k1, k2⟩
  exact ⟨by rw [e, shfO_mx], rfl, RP.km (by rw [e, shfF_mx, mx_mx]) h1.eg k1 k2⟩
theorem uu_undo (h : ICl T b ρ f g f g) (hX : IRf T f) (h5 : f 55 5 < 999000)  : C_X11_undo [.ref 0] ρ f g (fun r ρ' f' g' => r = some (.int (iz (if f 104 82 = 0 then -1 else f 104 82 - 1))) ∧ CP (undF f) (undG f g) f g ρ' f' g') := by
  obtain ⟨i1, i2, i3, ⟨fl0, ra0, i4⟩, i5, i6, i7, i8, i9, i10, i11, i12⟩ := id h
  refine (c_undo i1.1 i9).mono ?_
  rintro r ρ' f' g' ⟨rfl, rfl, q, q1, q2⟩
  exact ⟨rfl, CP.rk h hX q q1 q2 (fun a k z1 z2 z3 z4 => undF_o (by omega) z2) ⟨undF_o (by omega) (by omega), undF_o (by omega) (by omega)⟩⟩
theorem vv_undo (h : ICl T b ρ f g f g) (hX : IRf T f) (h5 : f 55 5 < 999000) (hρ : Fx ρ1) (h1 : HI f g f1 g1)  : C_X12_undo [.ref 104] ρ1 f1 g1 (fun r ρ' f' g' => r = some (.int (iz (if f 104 82 = 0 then -1 else f 104 82 - 1))) ∧ ρ' = ρ1 ∧ RP (undF f) (undG f g) f1 g1 f' g') := by
  obtain ⟨i1, i2, i3, ⟨fl0, ra0, i4⟩, i5, i6, i7, i8, i9, i10, i11, i12⟩ := id h
  have hk := i1.2.2.2.2.1
  have hT1 := h1.mt hX.1
  have e := h1.e
  have eg := h1.eg
  have hd1 : 0 < f1 104 82 → ri (f1 138 (8 * (f1 104 82 - 1).toNat + 7)) := by
    rw [h1.1 104 82 (by omega), h1.1 138 _ (by omega)]
    intro z
    have z20 := i9.2.1.2.1
    obtain ⟨a, p1, p2⟩ := i9.2.2.1.1 (f 104 82 - 1).toNat (by omega)
    have w := (i9.2.2.2.1 (f 104 82 - 1).toNat (by omega) a p1).2.2.2.1
    unfold ri
    omega
  refine (c_mundo hρ (by rw [h1.1 104 82 (by omega)]; exact i9.2.1.2.1) hd1).mono ?_
  rintro r ρ' f' g' ⟨rfl, rfl, k1, k2⟩
  exact ⟨by rw [h1.1 104 82 (by omega)]; split <;> first | rfl | (congr 3; omega), rfl, RP.km (by rw [e, undF_mx, mx_mx]) (by rw [e, eg, undG_mx, mx_mx]) k1 k2⟩
theorem uu_keep (h : ICl T b ρ f g f g) (hX : IRf T f) (h5 : f 55 5 < 999000)  : C_X11_keep [.ref 0] ρ f g (fun r ρ' f' g' => r = some (.int (iz (if f 104 78 = 1 then f 137 0 else -2))) ∧ CP (keepF f) (keepG g) f g ρ' f' g') := by
  obtain ⟨i1, i2, i3, ⟨fl0, ra0, i4⟩, i5, i6, i7, i8, i9, i10, i11, i12⟩ := id h
  refine (c_keep i1.1 i9).mono ?_
  rintro r ρ' f' g' ⟨rfl, rfl, q, q1, q2⟩
  exact ⟨rfl, CP.rk h hX q q1 q2 (fun a k z1 z2 z3 z4 => keepF_o (by omega) z4) ⟨keepF_o (by omega) (by omega), keepF_o (by omega) (by omega)⟩⟩
theorem vv_keep (h : ICl T b ρ f g f g) (hX : IRf T f) (h5 : f 55 5 < 999000) (hρ : Fx ρ1) (h1 : HI f g f1 g1)  : C_X12_keep [.ref 104] ρ1 f1 g1 (fun r ρ' f' g' => r = some (.int (iz (if f 104 78 = 1 then f 137 0 else -2))) ∧ ρ' = ρ1 ∧ RP (keepF f) (keepG g) f1 g1 f' g') := by
  obtain ⟨i1, i2, i3, ⟨fl0, ra0, i4⟩, i5, i6, i7, i8, i9, i10, i11, i12⟩ := id h
  have hk := i1.2.2.2.2.1
  have hT1 := h1.mt hX.1
  have e := h1.e
  have eg := h1.eg
  refine (c_mkeep hρ (h1.rc h.rc) (by rw [h1.1 104 68 (by omega)]; exact i9.2.2.2.2.2.2.2.2)).mono ?_
  rintro r ρ' f' g' ⟨rfl, rfl, k1, k2⟩
  exact ⟨by rw [h1.1 104 78 (by omega), h1.1 137 0 (by omega)], rfl, RP.km (by rw [e, keepF_mx, mx_mx]) (by rw [eg, keepG_mx, mx_mx]) k1 k2⟩
theorem uu_sack (h : ICl T b ρ f g f g) (hX : IRf T f) (h5 : f 55 5 < 999000) {x1 : Int} (r1 : ri x1) : C_X11_sack [.ref 0, .int (iz x1)] ρ f g (fun r ρ' f' g' => r = some (.int (iz (bz (zin x1 0 30)))) ∧ CP (sackF x1 f) (g) f g ρ' f' g') := by
  obtain ⟨i1, i2, i3, ⟨fl0, ra0, i4⟩, i5, i6, i7, i8, i9, i10, i11, i12⟩ := id h
  refine (c_sack i9 r1).mono ?_
  rintro r ρ' f' g' ⟨rfl, rfl, q, q1, rfl⟩
  exact ⟨rfl, CP.rk h hX q q1 (fun _ _ _ => rfl) (fun a k z1 z2 z3 z4 => sackF_o (by omega)) ⟨sackF_o (by omega), sackF_o (by omega)⟩⟩
theorem vv_sack (h : ICl T b ρ f g f g) (hX : IRf T f) (h5 : f 55 5 < 999000) (hρ : Fx ρ1) (h1 : HI f g f1 g1) {x1 : Int} (r1 : ri x1) : C_X12_sack [.ref 104, .int (iz x1)] ρ1 f1 g1 (fun r ρ' f' g' => r = some (.int (iz (bz (zin x1 0 30)))) ∧ ρ' = ρ1 ∧ RP (sackF x1 f) (g) f1 g1 f' g') := by
  obtain ⟨i1, i2, i3, ⟨fl0, ra0, i4⟩, i5, i6, i7, i8, i9, i10, i11, i12⟩ := id h
  have hk := i1.2.2.2.2.1
  have hT1 := h1.mt hX.1
  have e := h1.e
  have eg := h1.eg
  refine (c_msack r1).mono ?_
  rintro r ρ' f' g' ⟨rfl, rfl, k1, k2⟩
  exact ⟨rfl, rfl, RP.km (by rw [e, sackF_mx, mx_mx]) h1.eg k1 k2⟩
theorem uu_go (h : ICl T b ρ f g f g) (hX : IRf T f) (h5 : f 55 5 < 999000) {x1 : Int} (r1 : ri x1) : C_X11_go [.ref 0, .int (iz x1)] ρ f g (fun r ρ' f' g' => r = some (.int (iz (goA T x1 f g))) ∧ CP (goF T x1 f g) (goG T x1 f g) f g ρ' f' g') := by
  obtain ⟨i1, i2, i3, ⟨fl0, ra0, i4⟩, i5, i6, i7, i8, i9, i10, i11, i12⟩ := id h
  refine (c_go i1 i3 i4 (by omega) i9 r1).mono ?_
  rintro r ρ' f' g' ⟨rfl, q1, q, q2, ag, q3⟩
  exact ⟨rfl, ⟨⟨T, b, h.go q1 q q2 ag q3 (fun a k z1 z2 z3 z4 => goF_o (by omega) z3 z2) ⟨goF_o (by omega) (by omega) (by omega), goF_o (by omega) (by omega) (by omega)⟩, hX.mv (fun a k z1 z2 z3 z4 => goF_o (by omega) (by omega) (by omega))⟩, by have := ag.2; omega, fun a k z => q3.2.1 a k (by unfold rcC; omega) (by omega), fun a k z => by have := i1.2.1; rw [q3.2.2 a (by omega) (by omega) (by omega) (by omega) (by omega)]⟩⟩
theorem vv_go (h : ICl T b ρ f g f g) (hX : IRf T f) (h5 : f 55 5 < 999000) (hρ : Fx ρ1) (h1 : HI f g f1 g1) {x1 : Int} (r1 : ri x1) : C_X12_go [.ref 104, .int (iz x1)] ρ1 f1 g1 (fun r ρ' f' g' => r = some (.int (iz (goA T x1 f g))) ∧ ρ' = ρ1 ∧ RP (goF T x1 f g) (goG T x1 f g) f1 g1 f' g') := by
  obtain ⟨i1, i2, i3, ⟨fl0, ra0, i4⟩, i5, i6, i7, i8, i9, i10, i11, i12⟩ := id h
  have hk := i1.2.2.2.2.1
  have hT1 := h1.mt hX.1
  have e := h1.e
  have eg := h1.eg
  refine (c_mgo hρ hT1 hk (by rw [h1.1 104 67 (by omega)]; exact h.sk.2) (by rw [h1.1 104 68 (by omega)]; exact i9.2.2.2.2.2.2.2.2) (by rw [h1.1 104 82 (by omega)]; exact i9.2.1.2.1) (h1.rc h.rc) r1).mono ?_
  rintro r ρ' f' g' ⟨rfl, rfl, k1, k2⟩
  exact ⟨by rw [e, eg, goA_mx], rfl, RP.km (by rw [e, eg, goF_mx, mx_mx]) (by rw [e, eg, goG_mx, mx_mx]) k1 k2⟩
theorem uu_note (h : ICl T b ρ f g f g) (hX : IRf T f) (h5 : f 55 5 < 999000) {x1 x2 x3 x4 : Int} (r1 : ri x1) (r2 : ri x2) (r3 : ri x3) (r4 : ri x4) : C_X11_note [.ref 0, .int (iz x1), .int (iz x2), .int (iz x3), .int (iz x4)] ρ f g (fun r ρ' f' g' => r = some (.int (iz (notA T x1 x2 x3 x4 f))) ∧ CP (notF T x1 x2 x3 x4 f) (g) f g ρ' f' g') := by
  obtain ⟨i1, i2, i3, ⟨fl0, ra0, i4⟩, i5, i6, i7, i8, i9, i10, i11, i12⟩ := id h
  refine (c_note i1 i3 i7 r1 r2 r3 r4).mono ?_
  rintro r ρ' f' g' ⟨rfl, rfl, q, q1, q2, rfl⟩
  refine ⟨rfl, CP.nk h hX q q1 q2 (fun a k z1 z2 => notF_o (by omega) z2) (fun z => ?_)⟩
  obtain ⟨-, q4, q5, -⟩ := q
  obtain ⟨-, j4, j5, -⟩ := i7
  rw [z] at q4 q5
  unfold notF at *
  by_cases c : notO T x1 x2 x3 x4 f = true
  · exfalso
    rw [if_pos c] at q4
    unfold ntdF at q4
    rw [u2_s] at q4
    omega
  · rw [if_neg c]
theorem vv_note (h : ICl T b ρ f g f g) (hX : IRf T f) (h5 : f 55 5 < 999000) (hρ : Fx ρ1) (h1 : HI f g f1 g1) {x1 x2 x3 x4 : Int} (r1 : ri x1) (r2 : ri x2) (r3 : ri x3) (r4 : ri x4) : C_X12_note [.ref 104, .int (iz x1), .int (iz x2), .int (iz x3), .int (iz x4)] ρ1 f1 g1 (fun r ρ' f' g' => r = some (.int (iz (notA T x1 x2 x3 x4 f))) ∧ ρ' = ρ1 ∧ RP (notF T x1 x2 x3 x4 f) (g) f1 g1 f' g') := by
  obtain ⟨i1, i2, i3, ⟨fl0, ra0, i4⟩, i5, i6, i7, i8, i9, i10, i11, i12⟩ := id h
  have hk := i1.2.2.2.2.1
  have hT1 := h1.mt hX.1
  have e := h1.e
  have eg := h1.eg
  refine (c_mnote hρ hT1 hk (by rw [h1.1 104 90 (by omega)]; exact i7.1.1) r1 r2 r3 r4).mono ?_
  rintro r ρ' f' g' ⟨rfl, rfl, k1, k2⟩
  exact ⟨by rw [e, notA_mx], rfl, RP.km (by rw [e, notF_mx, mx_mx]) h1.eg k1 k2⟩
theorem uu_strike (h : ICl T b ρ f g f g) (hX : IRf T f) (h5 : f 55 5 < 999000) {x1 : Int} (r1 : ri x1) : C_X11_strike [.ref 0, .int (iz x1)] ρ f g (fun r ρ' f' g' => r = some (.int (iz (strA x1 f))) ∧ CP (strF x1 f) (g) f g ρ' f' g') := by
  obtain ⟨i1, i2, i3, ⟨fl0, ra0, i4⟩, i5, i6, i7, i8, i9, i10, i11, i12⟩ := id h
  refine (c_strike i1.1 i7 r1).mono ?_
  rintro r ρ' f' g' ⟨rfl, rfl, q, q1, q2, rfl⟩
  refine ⟨rfl, CP.nk h hX q q1 q2 (fun a k z1 z2 => strF_o (by omega) z2) (fun z => ?_)⟩
  obtain ⟨-, q4, q5, -⟩ := q
  obtain ⟨-, j4, j5, -⟩ := i7
  rw [z] at q4 q5
  unfold strF at *
  by_cases c : strO x1 f = true
  · exfalso
    rw [if_pos c] at q4
    unfold ntdF at q4
    rw [u2_s] at q4
    omega
  · rw [if_neg c]
theorem vv_strike (h : ICl T b ρ f g f g) (hX : IRf T f) (h5 : f 55 5 < 999000) (hρ : Fx ρ1) (h1 : HI f g f1 g1) {x1 : Int} (r1 : ri x1) : C_X12_strike [.ref 104, .int (iz x1)] ρ1 f1 g1 (fun r ρ' f' g' => r = some (.int (iz (strA x1 f))) ∧ ρ' = ρ1 ∧ RP (strF x1 f) (g) f1 g1 f' g') := by
  obtain ⟨i1, i2, i3, ⟨fl0, ra0, i4⟩, i5, i6, i7, i8, i9, i10, i11, i12⟩ := id h
  have hk := i1.2.2.2.2.1
  have hT1 := h1.mt hX.1
  have e := h1.e
  have eg := h1.eg
  refine (c_mstrike hρ (by rw [h1.1 104 90 (by omega)]; exact i7.1.1) r1).mono ?_
  rintro r ρ' f' g' ⟨rfl, rfl, k1, k2⟩
  exact ⟨by rw [e, strA_mx], rfl, RP.km (by rw [e, strF_mx, mx_mx]) h1.eg k1 k2⟩
theorem uu_known (h : ICl T b ρ f g f g) (hX : IRf T f) (h5 : f 55 5 < 999000) {x1 : Int} (r1 : ri x1) : C_X11_known [.ref 0, .int (iz x1)] ρ f g (fun r ρ' f' g' => r = some (.int (iz (bz (zin x1 (-1) (f 104 90))))) ∧ CP (knoF x1 f) (g) f g ρ' f' g') := by
  obtain ⟨i1, i2, i3, ⟨fl0, ra0, i4⟩, i5, i6, i7, i8, i9, i10, i11, i12⟩ := id h
  refine (c_known i1.1 i7 r1).mono ?_
  rintro r ρ' f' g' ⟨rfl, rfl, q, q1, q2, rfl⟩
  refine ⟨rfl, CP.nk h hX q q1 q2 (fun a k z1 z2 => knoF_o (by omega)) (fun z => ?_)⟩
  obtain ⟨-, q4, q5, -⟩ := q
  obtain ⟨-, j4, j5, -⟩ := i7
  rw [z] at q4 q5
  unfold knoF at *
  by_cases c : zin x1 (-1) (f 104 90) = true
  · rw [if_pos c] at q5 ⊢
    rw [u2_s] at q5
    funext a k
    by_cases y : a = 104 ∧ k = 91
    · obtain ⟨rfl, rfl⟩ := y
      rw [u2_s]; omega
    · rw [u2_o y]
  · rw [if_neg c]
theorem vv_known (h : ICl T b ρ f g f g) (hX : IRf T f) (h5 : f 55 5 < 999000) (hρ : Fx ρ1) (h1 : HI f g f1 g1) {x1 : Int} (r1 : ri x1) : C_X12_known [.ref 104, .int (iz x1)] ρ1 f1 g1 (fun r ρ' f' g' => r = some (.int (iz (bz (zin x1 (-1) (f 104 90))))) ∧ ρ' = ρ1 ∧ RP (knoF x1 f) (g) f1 g1 f' g') := by
  obtain ⟨i1, i2, i3, ⟨fl0, ra0, i4⟩, i5, i6, i7, i8, i9, i10, i11, i12⟩ := id h
  have hk := i1.2.2.2.2.1
  have hT1 := h1.mt hX.1
  have e := h1.e
  have eg := h1.eg
  refine (c_mknown (by rw [h1.1 104 90 (by omega)]; exact i7.1.1) r1).mono ?_
  rintro r ρ' f' g' ⟨rfl, rfl, k1, k2⟩
  exact ⟨by rw [h1.1 104 90 (by omega)], rfl, RP.km (by rw [e, knoF_mx, mx_mx]) h1.eg k1 k2⟩
/-! fault, back, rain, feed, text: a form of their own -/
theorem uu_fault (h : ICl T b ρ f g f g) (hX : IRf T f) (h5 : f 55 5 < 999000) {x1 : Int} (r1 : ri x1) : C_X11_fault [.ref 0, .int (iz x1)] ρ f g (fun r ρ' f' g' => r = some (.int (iz (if x1 = 0 then f 104 4 else if x1 = 1 then f 104 5 else -1))) ∧ CP f g f g ρ' f' g') := by
  obtain ⟨i1, i2, i3, ⟨fl0, ra0, i4⟩, i5, i6, i7, i8, i9, i10, i11, i12⟩ := id h
  refine (c_fault i1.1 r1).mono ?_
  rintro r ρ' f' g' ⟨rfl, rfl, rfl, rfl⟩
  exact ⟨by rw [i11.1, i11.2], CP.id h hX⟩
theorem vv_fault (h : ICl T b ρ f g f g) (hX : IRf T f) (h5 : f 55 5 < 999000) (h1 : HI f g f1 g1) {x1 : Int} (r1 : ri x1) : C_X12_fault [.ref 104, .int (iz x1)] ρ1 f1 g1 (fun r ρ' f' g' => r = some (.int (iz (if x1 = 0 then f 104 4 else if x1 = 1 then f 104 5 else -1))) ∧ ρ' = ρ1 ∧ RP f g f1 g1 f' g') := by
  refine (c_mfault r1).mono ?_
  rintro r ρ' f' g' ⟨rfl, rfl, rfl, rfl⟩
  exact ⟨by rw [h1.1 104 4 (by omega), h1.1 104 5 (by omega)], rfl, RP.km h1.e h1.eg (KM.u2 rfl KM.rf) KM.rf⟩
theorem uu_back (h : ICl T b ρ f g f g) (hX : IRf T f) (h5 : f 55 5 < 999000) : C_X11_back [.ref 0] ρ f g (fun r ρ' f' g' => r = some (.int (iz (backA f))) ∧ CP (backF f) (backG f g) f g ρ' f' g') := by
  obtain ⟨i1, i2, i3, ⟨fl0, ra0, i4⟩, i5, i6, i7, i8, i9, i10, i11, i12⟩ := id h
  refine (c_back i1.1 i9).mono ?_
  rintro r ρ' f' g' ⟨rfl, rfl, q, q1, q2⟩
  exact ⟨rfl, CP.rk h hX q q1 q2 (fun a k z1 z2 z3 z4 => backF_o (by omega) z2) ⟨backF_o (by omega) (by omega), backF_o (by omega) (by omega)⟩⟩
theorem uu_rain (h : ICl T b ρ f g f g) (hX : IRf T f) (h5 : f 55 5 < 999000) {ra : Bool} : C_X11_rain [.ref 0, .int (iz (bz ra))] ρ f g (fun r ρ' f' g' => r = some (.int (iz (dmS T ra))) ∧ CP (u2 f 104 68 (bz ra)) g f g ρ' f' g') := by
  obtain ⟨i1, i2, i3, ⟨fl0, ra0, i4⟩, i5, i6, i7, i8, i9, i10, i11, i12⟩ := id h
  refine (c_rain i1 i3 i9).mono ?_
  rintro r ρ' f' g' ⟨rfl, rfl, q, q1, rfl⟩
  exact ⟨rfl, CP.rk h hX q q1 (fun _ _ _ => rfl) (fun a k z1 z2 z3 z4 => u2_o (by omega)) ⟨u2_o (by omega), u2_o (by omega)⟩⟩
theorem vv_rain (h : ICl T b ρ f g f g) (hX : IRf T f) (h5 : f 55 5 < 999000) (hρ : Fx ρ1) (h1 : HI f g f1 g1) {ra : Bool} : C_X12_rain [.ref 104, .int (iz (bz ra))] ρ1 f1 g1 (fun r ρ' f' g' => r = some (.int (iz (dmS T ra))) ∧ ρ' = ρ1 ∧ RP (u2 f 104 68 (bz ra)) g f1 g1 f' g') := by
  refine (c_mrain hρ (h1.mt hX.1) h.1.2.2.2.2.1).mono ?_
  rintro r ρ' f' g' ⟨rfl, rfl, k1, k2⟩
  exact ⟨rfl, rfl, RP.km (by rw [← mxu_104, ← h1.e]) h1.eg k1 k2⟩
theorem TPm.txk {φ : IT} (hK : TxK φ) (h : 0 ≤ φ 104 1 + 20 ∧ φ 104 1 + 20 ≤ 700) {p q r s t : Int} {F : IT} (hF : F = u2 (fdR p q r s t (φ 104 1).toNat 20 105 (u2 φ 104 2 0)) 104 1 (φ 104 1 + 20)) : TxK F := by
  obtain ⟨k1, k2, k3, k4, k5, k6⟩ := hK
  subst hF
  have o : ∀ a k, a ≠ 105 → ¬ (a = 104 ∧ (k = 1 ∨ k = 2)) → u2 (fdR p q r s t (φ 104 1).toNat 20 105 (u2 φ 104 2 0)) 104 1 (φ 104 1 + 20) a k = φ a k := fun a k z1 z2 => by rw [u2_o (by omega)]; unfold fdR; rw [if_neg (by omega), u2_o (by omega)]
  refine ⟨by rw [u2_s]; omega, fun k hk => ?_, fun k hk => by rw [o _ _ (by omega) (by omega)]; exact k3 k hk, ?_, fun k => ?_, fun k => ?_⟩
  · rw [u2_o (by omega)]
    unfold fdR
    split
    · exact byt_rng _ _
    · rw [u2_o (by omega)]; exact k2 k hk
  · unfold KwK at *
    rw [o 104 8 (by omega) (by omega), o 104 9 (by omega) (by omega)]; exact k4
  · rw [o 107 k (by omega) (by omega), o 112 k (by omega) (by omega), o 116 k (by omega) (by omega), o 120 k (by omega) (by omega), o 124 k (by omega) (by omega)]; exact k5 k
  · rw [o 110 k (by omega) (by omega), o 111 k (by omega) (by omega), o 127 k (by omega) (by omega)]; exact k6 k
theorem uu_feed (h : ICl T b ρ f g f g) (hX : IRf T f) (h5 : f 55 5 < 999000) {x1 x2 x3 x4 x5 : Int} : C_X11_feed [.ref 0, .int (iz x1), .int (iz x2), .int (iz x3), .int (iz x4), .int (iz x5)] ρ f g (fun r ρ' f' g' => r = some (.int (iz (fdA f))) ∧ CP (fdF x1 x2 x3 x4 x5 f) g f g ρ' f' g') := by
  obtain ⟨i1, i2, i3, ⟨fl0, ra0, i4⟩, i5, i6, i7, i8, i9, i10, i11, i12⟩ := id h
  refine (c_feed i1.1 i10).mono ?_
  rintro r ρ' f' g' ⟨rfl, rfl, q, q1, rfl⟩
  refine ⟨rfl, ⟨T, b, h.fd q q1 (fun a k z1 z2 => fdF_o (by omega) z2), ?_, ?_⟩, by rw [q1 55 5 (by omega) (by omega)]; omega, fun a k z => q1 a k (by omega) (by omega), fun _ _ _ => rfl⟩
  · intro a k ht
    obtain ⟨t1, t2, t3, t4⟩ := tx_sc ht
    rw [fdF_o ?_ ?_]
    · exact hX.1 a k ht
    · intro z
      rw [z.1] at ht
      rcases z.2 with y | y <;> (rw [y] at ht; cases ht)
    · intro z
      rw [z] at ht
      unfold tx half at ht
      simp at ht
  · unfold fdF
    split
    · exact TPm.txk hX.2 (by have := hX.2.1; omega) rfl
    · exact hX.n2.2
theorem vv_feed (h : ICl T b ρ f g f g) (hX : IRf T f) (h5 : f 55 5 < 999000) (hρ : Fx ρ1) (h1 : HI f g f1 g1) {x1 x2 x3 x4 x5 : Int} (r1 : ri x1) (r2 : ri x2) (r3 : ri x3) (r4 : ri x4) (r5 : ri x5) : C_X12_feed [.ref 104, .int (iz x1), .int (iz x2), .int (iz x3), .int (iz x4), .int (iz x5)] ρ1 f1 g1 (fun r ρ' f' g' => r = some (.int (iz (fdA f))) ∧ ρ' = ρ1 ∧ RP (fdF x1 x2 x3 x4 x5 f) g f1 g1 f' g') := by
  have e := h1.e
  refine (c_mfeed hρ (by rw [h1.1 104 1 (by omega)]; exact hX.2.1) r1 r2 r3 r4 r5).mono ?_
  rintro r ρ' f' g' ⟨rfl, rfl, rfl, rfl⟩
  exact ⟨by rw [e, fdA_mx], rfl, RP.km (by rw [e, fdF_mx, mx_mx]) h1.eg KM.rf KM.rf⟩
theorem uu_text (h : ICl T b ρ f g f g) (hX : IRf T f) (h5 : f 55 5 < 999000) {x1 : Int} (r1 : ri x1) : C_X11_text [.ref 0, .int (iz x1)] ρ f g (fun r ρ' f' g' => r = some (.int (iz (txA x1 f))) ∧ CP (txF x1 f) (txG x1 f g) f g ρ' f' g') := by
  refine (c_text h hX (by omega) r1).mono ?_
  rintro r ρ' f' g' ⟨rfl, q1, q2, q3, q4⟩
  exact ⟨rfl, q1, by omega, q3, q4⟩
theorem vv_text (h : ICl T b ρ f g f g) (hX : IRf T f) (h5 : f 55 5 < 999000) (hρ : Fx ρ1) (h1 : HI f g f1 g1) {x1 : Int} (r1 : ri x1) : C_X12_text [.ref 104, .int (iz x1)] ρ1 f1 g1 (fun r ρ' f' g' => r = some (.int (iz (txA x1 f))) ∧ ρ' = ρ1 ∧ RP (txF x1 f) (txG x1 f g) f1 g1 f' g') := by
  have e := h1.e
  have eg := h1.eg
  have hX1 : IRf T f1 := hX.mv (fun a k z1 z2 z3 z4 => h1.1 a k z1)
  refine (c_mtext hρ hX1.2 r1).mono ?_
  rintro r ρ' f' g' ⟨rfl, rfl, rfl, rfl⟩
  exact ⟨by rw [e, txA_mx], rfl, RP.km (by rw [e, txF_mx, mx_mx]) (by rw [e, eg, txG_mx, mx_mx]) KM.rf KM.rf⟩
theorem c_mback0 (h97 : f 104 97 = 0) : C_X12_back [.ref 104] ρ f g (fun r ρ' f' g' => r = some (.int (iz (-1))) ∧ ρ' = ρ ∧ f' = u2 f 104 2 0 ∧ g' = g) := by
  refine Ct.ofV (by decide) rfl (Nat.le_of_ble_eq_true rfl) ?_
  refine V_al0n dX12_back_0 ?_
  refine V_iconst dX12_back_1 ?_
  refine V_putI kk104 (by decide) fl_X12_154 rfl dX12_back_2 ?_
  refine V_al0n dX12_back_5 ?_
  refine V_getZ kk104 (by decide) fl_X12_301 (u2_n (by decide) rfl) dX12_back_6 ?_
  refine V_if_ne (tgt := 14) dX12_back_9 rfl (by unfold ri; omega) (fun b9 => ?_) (fun b9 => ?_)
  · exfalso; omega
  · refine V_iconst dX12_back_12 ?_
    exact V_ireturn rfl ⟨rfl, rfl, rfl, rfl⟩ dX12_back_13
theorem vv_back (h : ICl T b ρ f g f g) (hX : IRf T f) (h5 : f 55 5 < 999000) (hρ : Fx ρ1) (h1 : HI f g f1 g1) : C_X12_back [.ref 104] ρ1 f1 g1 (fun r ρ' f' g' => r = some (.int (iz (backA f))) ∧ ρ' = ρ1 ∧ RP (backF f) (backG f g) f1 g1 f' g') := by
  obtain ⟨i1, i2, i3, ⟨fl0, ra0, i4⟩, i5, i6, i7, i8, i9, i10, i11, i12⟩ := id h
  have e := h1.e
  have eg := h1.eg
  rcases i9.2.2.2.2.1.2 with h97 | h97
  · have eA : backA f = -1 := by unfold backA; rw [if_neg (by omega)]
    have eF : backF f = f := by unfold backF; rw [if_neg (by omega)]
    have eG : backG f g = g := by unfold backG; rw [if_neg (by omega)]
    refine (c_mback0 (by rw [h1.1 104 97 (by omega)]; exact h97)).mono ?_
    rintro r ρ' f' g' ⟨rfl, rfl, rfl, rfl⟩
    exact ⟨by rw [eA], rfl, by rw [eF, eG]; exact RP.km h1.e h1.eg (KM.u2 rfl KM.rf) KM.rf⟩
  · have q := i9.2.2.2.2.2.1 h97
    refine (c_mback hρ (by rw [h1.1 104 97 (by omega)]; exact i9.2.2.2.2.1.2) (by rw [h1.1 104 98 (by omega)]; exact q.1.2.2.1) (by rw [h1.1 104 104 (by omega)]; exact q.2.2.2.2)).mono ?_
    rintro r ρ' f' g' ⟨rfl, rfl, k1, k2⟩
    exact ⟨by rw [e, backA_mx], rfl, RP.km (by rw [e, backF_mx, mx_mx]) (by rw [e, eg, backG_mx, mx_mx]) k1 k2⟩
end PAIRS

